section
-- ===== PART A: goes FIRST, ahead of the names: the tables' words, and 'selects' of the private methods out of them =====
/-- a private method of a class that the tables say can be made, by its rows of tables_1 -/
def lw_okq (q : MethodName × Nat) : Prop := (q.1.cls ≠ "java/lang/invoke/MethodHandle" ∧ q.1.cls ≠ "java/lang/invoke/VarHandle") ∧ Cond.instantiable q.1.cls q.2 ∈ tables_1 ∧ Cond.privateMethod q.1 ∈ tables_1 ∧ Cond.instanceMethod q.1 ∈ tables_1
theorem lw_p0 : lw_okq (⟨"PlaceRectangles", "beginAnew", "()V"⟩, 5) := ⟨⟨by decide +kernel, by decide +kernel⟩, List.mem_of_getElem? (i := 11) (by decide +kernel), List.mem_of_getElem? (i := 193) (by decide +kernel), List.mem_of_getElem? (i := 194) (by decide +kernel)⟩
theorem lw_p1 : lw_okq (⟨"PlaceRectangles$Search", "orderBoxes", "()V"⟩, 16) := ⟨⟨by decide +kernel, by decide +kernel⟩, List.mem_of_getElem? (i := 51) (by decide +kernel), List.mem_of_getElem? (i := 201) (by decide +kernel), List.mem_of_getElem? (i := 202) (by decide +kernel)⟩
theorem lw_p2 : lw_okq (⟨"PlaceRectangles$Search", "sumsOfOthers", "(II)I"⟩, 16) := ⟨⟨by decide +kernel, by decide +kernel⟩, List.mem_of_getElem? (i := 51) (by decide +kernel), List.mem_of_getElem? (i := 209) (by decide +kernel), List.mem_of_getElem? (i := 210) (by decide +kernel)⟩
theorem lw_p3 : lw_okq (⟨"PlaceRectangles$Search", "withExtents", "(III)I"⟩, 16) := ⟨⟨by decide +kernel, by decide +kernel⟩, List.mem_of_getElem? (i := 51) (by decide +kernel), List.mem_of_getElem? (i := 213) (by decide +kernel), List.mem_of_getElem? (i := 214) (by decide +kernel)⟩
theorem lw_p4 : lw_okq (⟨"PlaceRectangles$Search", "enter", "(I)V"⟩, 16) := ⟨⟨by decide +kernel, by decide +kernel⟩, List.mem_of_getElem? (i := 51) (by decide +kernel), List.mem_of_getElem? (i := 227) (by decide +kernel), List.mem_of_getElem? (i := 228) (by decide +kernel)⟩
theorem lw_p5 : lw_okq (⟨"PlaceRectangles$Search", "lookAlongRow", "()V"⟩, 16) := ⟨⟨by decide +kernel, by decide +kernel⟩, List.mem_of_getElem? (i := 51) (by decide +kernel), List.mem_of_getElem? (i := 295) (by decide +kernel), List.mem_of_getElem? (i := 296) (by decide +kernel)⟩
theorem lw_p6 : lw_okq (⟨"PlaceRectangles$Search", "lookAtBlocked", "()V"⟩, 16) := ⟨⟨by decide +kernel, by decide +kernel⟩, List.mem_of_getElem? (i := 51) (by decide +kernel), List.mem_of_getElem? (i := 305) (by decide +kernel), List.mem_of_getElem? (i := 306) (by decide +kernel)⟩
theorem lw_p7 : lw_okq (⟨"PlaceRectangles$Search", "take", "(I)V"⟩, 16) := ⟨⟨by decide +kernel, by decide +kernel⟩, List.mem_of_getElem? (i := 51) (by decide +kernel), List.mem_of_getElem? (i := 313) (by decide +kernel), List.mem_of_getElem? (i := 314) (by decide +kernel)⟩
theorem lw_p8 : lw_okq (⟨"PlaceRectangles$Search", "setAxis", "(II)V"⟩, 16) := ⟨⟨by decide +kernel, by decide +kernel⟩, List.mem_of_getElem? (i := 51) (by decide +kernel), List.mem_of_getElem? (i := 317) (by decide +kernel), List.mem_of_getElem? (i := 318) (by decide +kernel)⟩
theorem lw_p9 : lw_okq (⟨"PlaceRectangles$Search", "nextRow", "()Z"⟩, 16) := ⟨⟨by decide +kernel, by decide +kernel⟩, List.mem_of_getElem? (i := 51) (by decide +kernel), List.mem_of_getElem? (i := 321) (by decide +kernel), List.mem_of_getElem? (i := 322) (by decide +kernel)⟩
theorem lw_p10 : lw_okq (⟨"PlaceRectangles$Search", "nextTurn", "()V"⟩, 16) := ⟨⟨by decide +kernel, by decide +kernel⟩, List.mem_of_getElem? (i := 51) (by decide +kernel), List.mem_of_getElem? (i := 325) (by decide +kernel), List.mem_of_getElem? (i := 326) (by decide +kernel)⟩
theorem lw_p11 : lw_okq (⟨"PlaceRectangles$Search", "turnTo", "(II)V"⟩, 16) := ⟨⟨by decide +kernel, by decide +kernel⟩, List.mem_of_getElem? (i := 51) (by decide +kernel), List.mem_of_getElem? (i := 343) (by decide +kernel), List.mem_of_getElem? (i := 344) (by decide +kernel)⟩
theorem lw_p12 : lw_okq (⟨"PlaceRectangles$Search", "wayCoordinates", "(III)I"⟩, 16) := ⟨⟨by decide +kernel, by decide +kernel⟩, List.mem_of_getElem? (i := 51) (by decide +kernel), List.mem_of_getElem? (i := 347) (by decide +kernel), List.mem_of_getElem? (i := 348) (by decide +kernel)⟩
theorem lw_p13 : lw_okq (⟨"PlaceRectangles$Search", "nextLayer", "()V"⟩, 16) := ⟨⟨by decide +kernel, by decide +kernel⟩, List.mem_of_getElem? (i := 51) (by decide +kernel), List.mem_of_getElem? (i := 351) (by decide +kernel), List.mem_of_getElem? (i := 352) (by decide +kernel)⟩
theorem lw_p14 : lw_okq (⟨"PlaceRectangles$Search", "blockedInRow", "()I"⟩, 16) := ⟨⟨by decide +kernel, by decide +kernel⟩, List.mem_of_getElem? (i := 51) (by decide +kernel), List.mem_of_getElem? (i := 355) (by decide +kernel), List.mem_of_getElem? (i := 356) (by decide +kernel)⟩
theorem lw_p15 : lw_okq (⟨"PlaceRectangles$Search", "goBack", "()V"⟩, 16) := ⟨⟨by decide +kernel, by decide +kernel⟩, List.mem_of_getElem? (i := 51) (by decide +kernel), List.mem_of_getElem? (i := 362) (by decide +kernel), List.mem_of_getElem? (i := 363) (by decide +kernel)⟩
def lw_privs_1 : List (MethodName × Nat) := [(⟨"PlaceRectangles", "beginAnew", "()V"⟩, 5), (⟨"PlaceRectangles$Search", "orderBoxes", "()V"⟩, 16), (⟨"PlaceRectangles$Search", "sumsOfOthers", "(II)I"⟩, 16), (⟨"PlaceRectangles$Search", "withExtents", "(III)I"⟩, 16), (⟨"PlaceRectangles$Search", "enter", "(I)V"⟩, 16), (⟨"PlaceRectangles$Search", "lookAlongRow", "()V"⟩, 16), (⟨"PlaceRectangles$Search", "lookAtBlocked", "()V"⟩, 16), (⟨"PlaceRectangles$Search", "take", "(I)V"⟩, 16), (⟨"PlaceRectangles$Search", "setAxis", "(II)V"⟩, 16), (⟨"PlaceRectangles$Search", "nextRow", "()Z"⟩, 16), (⟨"PlaceRectangles$Search", "nextTurn", "()V"⟩, 16), (⟨"PlaceRectangles$Search", "turnTo", "(II)V"⟩, 16), (⟨"PlaceRectangles$Search", "wayCoordinates", "(III)I"⟩, 16), (⟨"PlaceRectangles$Search", "nextLayer", "()V"⟩, 16), (⟨"PlaceRectangles$Search", "blockedInRow", "()I"⟩, 16), (⟨"PlaceRectangles$Search", "goBack", "()V"⟩, 16)]
theorem lw_r1 : ∀ q ∈ lw_privs_1, lw_okq q := List.forall_mem_cons.mpr ⟨lw_p0, List.forall_mem_cons.mpr ⟨lw_p1, List.forall_mem_cons.mpr ⟨lw_p2, List.forall_mem_cons.mpr ⟨lw_p3, List.forall_mem_cons.mpr ⟨lw_p4, List.forall_mem_cons.mpr ⟨lw_p5, List.forall_mem_cons.mpr ⟨lw_p6, List.forall_mem_cons.mpr ⟨lw_p7, List.forall_mem_cons.mpr ⟨lw_p8, List.forall_mem_cons.mpr ⟨lw_p9, List.forall_mem_cons.mpr ⟨lw_p10, List.forall_mem_cons.mpr ⟨lw_p11, List.forall_mem_cons.mpr ⟨lw_p12, List.forall_mem_cons.mpr ⟨lw_p13, List.forall_mem_cons.mpr ⟨lw_p14, List.forall_mem_cons.mpr ⟨lw_p15, fun _ h => absurd h List.not_mem_nil⟩⟩⟩⟩⟩⟩⟩⟩⟩⟩⟩⟩⟩⟩⟩⟩
theorem lw_p16 : lw_okq (⟨"PlaceRectangles$Stock", "liesWithin", "(III)Z"⟩, 5) := ⟨⟨by decide +kernel, by decide +kernel⟩, List.mem_of_getElem? (i := 19) (by decide +kernel), List.mem_of_getElem? (i := 396) (by decide +kernel), List.mem_of_getElem? (i := 397) (by decide +kernel)⟩
theorem lw_p17 : lw_okq (⟨"PlaceRectangles$Laid", "commonLength", "(III)I"⟩, 5) := ⟨⟨by decide +kernel, by decide +kernel⟩, List.mem_of_getElem? (i := 111) (by decide +kernel), List.mem_of_getElem? (i := 447) (by decide +kernel), List.mem_of_getElem? (i := 448) (by decide +kernel)⟩
theorem lw_p18 : lw_okq (⟨"PlaceRectangles$Cuts", "write", "(IIIII)V"⟩, 3) := ⟨⟨by decide +kernel, by decide +kernel⟩, List.mem_of_getElem? (i := 138) (by decide +kernel), List.mem_of_getElem? (i := 482) (by decide +kernel), List.mem_of_getElem? (i := 483) (by decide +kernel)⟩
theorem lw_p19 : lw_okq (⟨"PlaceRectangles$Cuts", "axisOfCut", "(I)I"⟩, 3) := ⟨⟨by decide +kernel, by decide +kernel⟩, List.mem_of_getElem? (i := 138) (by decide +kernel), List.mem_of_getElem? (i := 486) (by decide +kernel), List.mem_of_getElem? (i := 487) (by decide +kernel)⟩
theorem lw_p20 : lw_okq (⟨"PlaceRectangles$Cuts", "cutPlaces", "(II)I"⟩, 3) := ⟨⟨by decide +kernel, by decide +kernel⟩, List.mem_of_getElem? (i := 138) (by decide +kernel), List.mem_of_getElem? (i := 490) (by decide +kernel), List.mem_of_getElem? (i := 491) (by decide +kernel)⟩
theorem lw_p21 : lw_okq (⟨"PlaceRectangles$Cuts", "boxesBefore", "(III)I"⟩, 3) := ⟨⟨by decide +kernel, by decide +kernel⟩, List.mem_of_getElem? (i := 138) (by decide +kernel), List.mem_of_getElem? (i := 496) (by decide +kernel), List.mem_of_getElem? (i := 497) (by decide +kernel)⟩
theorem lw_p22 : lw_okq (⟨"PlaceRectangles$Duals", "lastFunction", "(I)I"⟩, 10) := ⟨⟨by decide +kernel, by decide +kernel⟩, List.mem_of_getElem? (i := 155) (by decide +kernel), List.mem_of_getElem? (i := 513) (by decide +kernel), List.mem_of_getElem? (i := 514) (by decide +kernel)⟩
theorem lw_p23 : lw_okq (⟨"PlaceRectangles$Duals", "tellValues", "(I)V"⟩, 10) := ⟨⟨by decide +kernel, by decide +kernel⟩, List.mem_of_getElem? (i := 155) (by decide +kernel), List.mem_of_getElem? (i := 529) (by decide +kernel), List.mem_of_getElem? (i := 530) (by decide +kernel)⟩
theorem lw_p24 : lw_okq (⟨"PlaceRectangles$Duals", "tellTurns", "(II)I"⟩, 10) := ⟨⟨by decide +kernel, by decide +kernel⟩, List.mem_of_getElem? (i := 155) (by decide +kernel), List.mem_of_getElem? (i := 534) (by decide +kernel), List.mem_of_getElem? (i := 535) (by decide +kernel)⟩
theorem lw_p25 : lw_okq (⟨"PlaceRectangles$Duals", "leaveOutIdle", "(I)V"⟩, 10) := ⟨⟨by decide +kernel, by decide +kernel⟩, List.mem_of_getElem? (i := 155) (by decide +kernel), List.mem_of_getElem? (i := 567) (by decide +kernel), List.mem_of_getElem? (i := 568) (by decide +kernel)⟩
theorem lw_p26 : lw_okq (⟨"PlaceRectangles$Duals", "isTried", "(II)Z"⟩, 10) := ⟨⟨by decide +kernel, by decide +kernel⟩, List.mem_of_getElem? (i := 155) (by decide +kernel), List.mem_of_getElem? (i := 571) (by decide +kernel), List.mem_of_getElem? (i := 572) (by decide +kernel)⟩
theorem lw_p27 : lw_okq (⟨"PlaceRectangles$Duals", "givesNoLess", "(III)Z"⟩, 10) := ⟨⟨by decide +kernel, by decide +kernel⟩, List.mem_of_getElem? (i := 155) (by decide +kernel), List.mem_of_getElem? (i := 575) (by decide +kernel), List.mem_of_getElem? (i := 576) (by decide +kernel)⟩
theorem lw_p28 : lw_okq (⟨"PlaceRectangles$Duals", "seekOnLastAxis", "(II)Z"⟩, 10) := ⟨⟨by decide +kernel, by decide +kernel⟩, List.mem_of_getElem? (i := 155) (by decide +kernel), List.mem_of_getElem? (i := 579) (by decide +kernel), List.mem_of_getElem? (i := 580) (by decide +kernel)⟩
theorem lw_p29 : lw_okq (⟨"PlaceRectangles$Duals", "proves", "(II)Z"⟩, 10) := ⟨⟨by decide +kernel, by decide +kernel⟩, List.mem_of_getElem? (i := 155) (by decide +kernel), List.mem_of_getElem? (i := 585) (by decide +kernel), List.mem_of_getElem? (i := 586) (by decide +kernel)⟩
theorem lw_p30 : lw_okq (⟨"PlaceRectangles$Duals", "reason", "(I)I"⟩, 10) := ⟨⟨by decide +kernel, by decide +kernel⟩, List.mem_of_getElem? (i := 155) (by decide +kernel), List.mem_of_getElem? (i := 590) (by decide +kernel), List.mem_of_getElem? (i := 591) (by decide +kernel)⟩
theorem lw_p31 : lw_okq (⟨"PlaceRectangles$Duals", "keep", "(IIII)V"⟩, 10) := ⟨⟨by decide +kernel, by decide +kernel⟩, List.mem_of_getElem? (i := 155) (by decide +kernel), List.mem_of_getElem? (i := 594) (by decide +kernel), List.mem_of_getElem? (i := 595) (by decide +kernel)⟩
def lw_privs_2 : List (MethodName × Nat) := [(⟨"PlaceRectangles$Stock", "liesWithin", "(III)Z"⟩, 5), (⟨"PlaceRectangles$Laid", "commonLength", "(III)I"⟩, 5), (⟨"PlaceRectangles$Cuts", "write", "(IIIII)V"⟩, 3), (⟨"PlaceRectangles$Cuts", "axisOfCut", "(I)I"⟩, 3), (⟨"PlaceRectangles$Cuts", "cutPlaces", "(II)I"⟩, 3), (⟨"PlaceRectangles$Cuts", "boxesBefore", "(III)I"⟩, 3), (⟨"PlaceRectangles$Duals", "lastFunction", "(I)I"⟩, 10), (⟨"PlaceRectangles$Duals", "tellValues", "(I)V"⟩, 10), (⟨"PlaceRectangles$Duals", "tellTurns", "(II)I"⟩, 10), (⟨"PlaceRectangles$Duals", "leaveOutIdle", "(I)V"⟩, 10), (⟨"PlaceRectangles$Duals", "isTried", "(II)Z"⟩, 10), (⟨"PlaceRectangles$Duals", "givesNoLess", "(III)Z"⟩, 10), (⟨"PlaceRectangles$Duals", "seekOnLastAxis", "(II)Z"⟩, 10), (⟨"PlaceRectangles$Duals", "proves", "(II)Z"⟩, 10), (⟨"PlaceRectangles$Duals", "reason", "(I)I"⟩, 10), (⟨"PlaceRectangles$Duals", "keep", "(IIII)V"⟩, 10)]
theorem lw_r2 : ∀ q ∈ lw_privs_2, lw_okq q := List.forall_mem_cons.mpr ⟨lw_p16, List.forall_mem_cons.mpr ⟨lw_p17, List.forall_mem_cons.mpr ⟨lw_p18, List.forall_mem_cons.mpr ⟨lw_p19, List.forall_mem_cons.mpr ⟨lw_p20, List.forall_mem_cons.mpr ⟨lw_p21, List.forall_mem_cons.mpr ⟨lw_p22, List.forall_mem_cons.mpr ⟨lw_p23, List.forall_mem_cons.mpr ⟨lw_p24, List.forall_mem_cons.mpr ⟨lw_p25, List.forall_mem_cons.mpr ⟨lw_p26, List.forall_mem_cons.mpr ⟨lw_p27, List.forall_mem_cons.mpr ⟨lw_p28, List.forall_mem_cons.mpr ⟨lw_p29, List.forall_mem_cons.mpr ⟨lw_p30, List.forall_mem_cons.mpr ⟨lw_p31, fun _ h => absurd h List.not_mem_nil⟩⟩⟩⟩⟩⟩⟩⟩⟩⟩⟩⟩⟩⟩⟩⟩
theorem lw_p32 : lw_okq (⟨"PlaceRectanglesModel", "anew", "()V"⟩, 27) := ⟨⟨by decide +kernel, by decide +kernel⟩, List.mem_of_getElem? (i := 608) (by decide +kernel), List.mem_of_getElem? (i := 614) (by decide +kernel), List.mem_of_getElem? (i := 615) (by decide +kernel)⟩
theorem lw_p33 : lw_okq (⟨"PlaceRectanglesModel", "volume", "(I)I"⟩, 27) := ⟨⟨by decide +kernel, by decide +kernel⟩, List.mem_of_getElem? (i := 608) (by decide +kernel), List.mem_of_getElem? (i := 618) (by decide +kernel), List.mem_of_getElem? (i := 619) (by decide +kernel)⟩
theorem lw_p34 : lw_okq (⟨"PlaceRectanglesModel", "sum", "(II)V"⟩, 27) := ⟨⟨by decide +kernel, by decide +kernel⟩, List.mem_of_getElem? (i := 608) (by decide +kernel), List.mem_of_getElem? (i := 622) (by decide +kernel), List.mem_of_getElem? (i := 623) (by decide +kernel)⟩
theorem lw_p35 : lw_okq (⟨"PlaceRectanglesModel", "has", "(II)Z"⟩, 27) := ⟨⟨by decide +kernel, by decide +kernel⟩, List.mem_of_getElem? (i := 608) (by decide +kernel), List.mem_of_getElem? (i := 626) (by decide +kernel), List.mem_of_getElem? (i := 627) (by decide +kernel)⟩
theorem lw_p36 : lw_okq (⟨"PlaceRectanglesModel", "extent", "(III)I"⟩, 27) := ⟨⟨by decide +kernel, by decide +kernel⟩, List.mem_of_getElem? (i := 608) (by decide +kernel), List.mem_of_getElem? (i := 630) (by decide +kernel), List.mem_of_getElem? (i := 631) (by decide +kernel)⟩
theorem lw_p37 : lw_okq (⟨"PlaceRectanglesModel", "counted", "(III)I"⟩, 27) := ⟨⟨by decide +kernel, by decide +kernel⟩, List.mem_of_getElem? (i := 608) (by decide +kernel), List.mem_of_getElem? (i := 637) (by decide +kernel), List.mem_of_getElem? (i := 638) (by decide +kernel)⟩
theorem lw_p38 : lw_okq (⟨"PlaceRectanglesModel", "isSum", "(III)Z"⟩, 27) := ⟨⟨by decide +kernel, by decide +kernel⟩, List.mem_of_getElem? (i := 608) (by decide +kernel), List.mem_of_getElem? (i := 641) (by decide +kernel), List.mem_of_getElem? (i := 642) (by decide +kernel)⟩
theorem lw_p39 : lw_okq (⟨"PlaceRectanglesModel", "isFirst", "(II)Z"⟩, 27) := ⟨⟨by decide +kernel, by decide +kernel⟩, List.mem_of_getElem? (i := 608) (by decide +kernel), List.mem_of_getElem? (i := 645) (by decide +kernel), List.mem_of_getElem? (i := 646) (by decide +kernel)⟩
theorem lw_p40 : lw_okq (⟨"PlaceRectanglesModel", "many", "(III)I"⟩, 27) := ⟨⟨by decide +kernel, by decide +kernel⟩, List.mem_of_getElem? (i := 608) (by decide +kernel), List.mem_of_getElem? (i := 649) (by decide +kernel), List.mem_of_getElem? (i := 650) (by decide +kernel)⟩
theorem lw_p41 : lw_okq (⟨"PlaceRectanglesModel", "ways", "(I)I"⟩, 27) := ⟨⟨by decide +kernel, by decide +kernel⟩, List.mem_of_getElem? (i := 608) (by decide +kernel), List.mem_of_getElem? (i := 740) (by decide +kernel), List.mem_of_getElem? (i := 741) (by decide +kernel)⟩
theorem lw_p42 : lw_okq (⟨"PlaceRectanglesModel", "waysOf", "(II)I"⟩, 27) := ⟨⟨by decide +kernel, by decide +kernel⟩, List.mem_of_getElem? (i := 608) (by decide +kernel), List.mem_of_getElem? (i := 744) (by decide +kernel), List.mem_of_getElem? (i := 745) (by decide +kernel)⟩
theorem lw_p43 : lw_okq (⟨"PlaceRectanglesModel", "goes", "(II)V"⟩, 27) := ⟨⟨by decide +kernel, by decide +kernel⟩, List.mem_of_getElem? (i := 608) (by decide +kernel), List.mem_of_getElem? (i := 748) (by decide +kernel), List.mem_of_getElem? (i := 749) (by decide +kernel)⟩
theorem lw_p44 : lw_okq (⟨"PlaceRectanglesModel", "coordinate", "(III)I"⟩, 27) := ⟨⟨by decide +kernel, by decide +kernel⟩, List.mem_of_getElem? (i := 608) (by decide +kernel), List.mem_of_getElem? (i := 752) (by decide +kernel), List.mem_of_getElem? (i := 753) (by decide +kernel)⟩
theorem lw_p45 : lw_okq (⟨"PlaceRectanglesModel", "isPlanned", "(I)Z"⟩, 27) := ⟨⟨by decide +kernel, by decide +kernel⟩, List.mem_of_getElem? (i := 608) (by decide +kernel), List.mem_of_getElem? (i := 756) (by decide +kernel), List.mem_of_getElem? (i := 757) (by decide +kernel)⟩
theorem lw_p46 : lw_okq (⟨"PlaceRectanglesModel", "isApart", "(IIII)Z"⟩, 27) := ⟨⟨by decide +kernel, by decide +kernel⟩, List.mem_of_getElem? (i := 608) (by decide +kernel), List.mem_of_getElem? (i := 760) (by decide +kernel), List.mem_of_getElem? (i := 761) (by decide +kernel)⟩
theorem lw_p47 : lw_okq (⟨"PlaceRectanglesModel", "isBox", "(I)Z"⟩, 27) := ⟨⟨by decide +kernel, by decide +kernel⟩, List.mem_of_getElem? (i := 608) (by decide +kernel), List.mem_of_getElem? (i := 779) (by decide +kernel), List.mem_of_getElem? (i := 780) (by decide +kernel)⟩
def lw_privs_3 : List (MethodName × Nat) := [(⟨"PlaceRectanglesModel", "anew", "()V"⟩, 27), (⟨"PlaceRectanglesModel", "volume", "(I)I"⟩, 27), (⟨"PlaceRectanglesModel", "sum", "(II)V"⟩, 27), (⟨"PlaceRectanglesModel", "has", "(II)Z"⟩, 27), (⟨"PlaceRectanglesModel", "extent", "(III)I"⟩, 27), (⟨"PlaceRectanglesModel", "counted", "(III)I"⟩, 27), (⟨"PlaceRectanglesModel", "isSum", "(III)Z"⟩, 27), (⟨"PlaceRectanglesModel", "isFirst", "(II)Z"⟩, 27), (⟨"PlaceRectanglesModel", "many", "(III)I"⟩, 27), (⟨"PlaceRectanglesModel", "ways", "(I)I"⟩, 27), (⟨"PlaceRectanglesModel", "waysOf", "(II)I"⟩, 27), (⟨"PlaceRectanglesModel", "goes", "(II)V"⟩, 27), (⟨"PlaceRectanglesModel", "coordinate", "(III)I"⟩, 27), (⟨"PlaceRectanglesModel", "isPlanned", "(I)Z"⟩, 27), (⟨"PlaceRectanglesModel", "isApart", "(IIII)Z"⟩, 27), (⟨"PlaceRectanglesModel", "isBox", "(I)Z"⟩, 27)]
theorem lw_r3 : ∀ q ∈ lw_privs_3, lw_okq q := List.forall_mem_cons.mpr ⟨lw_p32, List.forall_mem_cons.mpr ⟨lw_p33, List.forall_mem_cons.mpr ⟨lw_p34, List.forall_mem_cons.mpr ⟨lw_p35, List.forall_mem_cons.mpr ⟨lw_p36, List.forall_mem_cons.mpr ⟨lw_p37, List.forall_mem_cons.mpr ⟨lw_p38, List.forall_mem_cons.mpr ⟨lw_p39, List.forall_mem_cons.mpr ⟨lw_p40, List.forall_mem_cons.mpr ⟨lw_p41, List.forall_mem_cons.mpr ⟨lw_p42, List.forall_mem_cons.mpr ⟨lw_p43, List.forall_mem_cons.mpr ⟨lw_p44, List.forall_mem_cons.mpr ⟨lw_p45, List.forall_mem_cons.mpr ⟨lw_p46, List.forall_mem_cons.mpr ⟨lw_p47, fun _ h => absurd h List.not_mem_nil⟩⟩⟩⟩⟩⟩⟩⟩⟩⟩⟩⟩⟩⟩⟩⟩
theorem lw_p48 : lw_okq (⟨"PlaceRectanglesModel", "isPlace", "(IIIII)Z"⟩, 27) := ⟨⟨by decide +kernel, by decide +kernel⟩, List.mem_of_getElem? (i := 608) (by decide +kernel), List.mem_of_getElem? (i := 803) (by decide +kernel), List.mem_of_getElem? (i := 804) (by decide +kernel)⟩
theorem lw_p49 : lw_okq (⟨"PlaceRectanglesModel", "apart", "(II)I"⟩, 27) := ⟨⟨by decide +kernel, by decide +kernel⟩, List.mem_of_getElem? (i := 608) (by decide +kernel), List.mem_of_getElem? (i := 811) (by decide +kernel), List.mem_of_getElem? (i := 812) (by decide +kernel)⟩
theorem lw_p50 : lw_okq (⟨"PlaceRectanglesModel", "end", "(II)I"⟩, 27) := ⟨⟨by decide +kernel, by decide +kernel⟩, List.mem_of_getElem? (i := 608) (by decide +kernel), List.mem_of_getElem? (i := 815) (by decide +kernel), List.mem_of_getElem? (i := 816) (by decide +kernel)⟩
theorem lw_p51 : lw_okq (⟨"PlaceRectanglesModel", "begin", "(II)I"⟩, 27) := ⟨⟨by decide +kernel, by decide +kernel⟩, List.mem_of_getElem? (i := 608) (by decide +kernel), List.mem_of_getElem? (i := 819) (by decide +kernel), List.mem_of_getElem? (i := 820) (by decide +kernel)⟩
theorem lw_p52 : lw_okq (⟨"PlaceRectanglesModel", "common", "(III)I"⟩, 27) := ⟨⟨by decide +kernel, by decide +kernel⟩, List.mem_of_getElem? (i := 608) (by decide +kernel), List.mem_of_getElem? (i := 840) (by decide +kernel), List.mem_of_getElem? (i := 841) (by decide +kernel)⟩
theorem lw_p53 : lw_okq (⟨"PlaceRectanglesModel", "planted", "()I"⟩, 27) := ⟨⟨by decide +kernel, by decide +kernel⟩, List.mem_of_getElem? (i := 608) (by decide +kernel), List.mem_of_getElem? (i := 852) (by decide +kernel), List.mem_of_getElem? (i := 853) (by decide +kernel)⟩
theorem lw_p54 : lw_okq (⟨"PlaceRectanglesModel", "cutOf", "(I)I"⟩, 27) := ⟨⟨by decide +kernel, by decide +kernel⟩, List.mem_of_getElem? (i := 608) (by decide +kernel), List.mem_of_getElem? (i := 859) (by decide +kernel), List.mem_of_getElem? (i := 860) (by decide +kernel)⟩
theorem lw_p55 : lw_okq (⟨"PlaceRectanglesModel", "before", "(III)I"⟩, 27) := ⟨⟨by decide +kernel, by decide +kernel⟩, List.mem_of_getElem? (i := 608) (by decide +kernel), List.mem_of_getElem? (i := 863) (by decide +kernel), List.mem_of_getElem? (i := 864) (by decide +kernel)⟩
theorem lw_p56 : lw_okq (⟨"PlaceRectanglesModel", "isDual", "(II)Z"⟩, 27) := ⟨⟨by decide +kernel, by decide +kernel⟩, List.mem_of_getElem? (i := 608) (by decide +kernel), List.mem_of_getElem? (i := 875) (by decide +kernel), List.mem_of_getElem? (i := 876) (by decide +kernel)⟩
theorem lw_p57 : lw_okq (⟨"PlaceRectanglesModel", "has", "(III)J"⟩, 27) := ⟨⟨by decide +kernel, by decide +kernel⟩, List.mem_of_getElem? (i := 608) (by decide +kernel), List.mem_of_getElem? (i := 887) (by decide +kernel), List.mem_of_getElem? (i := 888) (by decide +kernel)⟩
theorem lw_p58 : lw_okq (⟨"PlaceRectanglesModel", "needs", "(IIII)J"⟩, 27) := ⟨⟨by decide +kernel, by decide +kernel⟩, List.mem_of_getElem? (i := 608) (by decide +kernel), List.mem_of_getElem? (i := 891) (by decide +kernel), List.mem_of_getElem? (i := 892) (by decide +kernel)⟩
theorem lw_p59 : lw_okq (⟨"PlaceRectanglesModel", "prove", "()V"⟩, 27) := ⟨⟨by decide +kernel, by decide +kernel⟩, List.mem_of_getElem? (i := 608) (by decide +kernel), List.mem_of_getElem? (i := 899) (by decide +kernel), List.mem_of_getElem? (i := 900) (by decide +kernel)⟩
theorem lw_p60 : lw_okq (⟨"PlaceRectanglesModel", "isPossible", "(IIIIII)Z"⟩, 27) := ⟨⟨by decide +kernel, by decide +kernel⟩, List.mem_of_getElem? (i := 608) (by decide +kernel), List.mem_of_getElem? (i := 907) (by decide +kernel), List.mem_of_getElem? (i := 908) (by decide +kernel)⟩
def lw_privs_4 : List (MethodName × Nat) := [(⟨"PlaceRectanglesModel", "isPlace", "(IIIII)Z"⟩, 27), (⟨"PlaceRectanglesModel", "apart", "(II)I"⟩, 27), (⟨"PlaceRectanglesModel", "end", "(II)I"⟩, 27), (⟨"PlaceRectanglesModel", "begin", "(II)I"⟩, 27), (⟨"PlaceRectanglesModel", "common", "(III)I"⟩, 27), (⟨"PlaceRectanglesModel", "planted", "()I"⟩, 27), (⟨"PlaceRectanglesModel", "cutOf", "(I)I"⟩, 27), (⟨"PlaceRectanglesModel", "before", "(III)I"⟩, 27), (⟨"PlaceRectanglesModel", "isDual", "(II)Z"⟩, 27), (⟨"PlaceRectanglesModel", "has", "(III)J"⟩, 27), (⟨"PlaceRectanglesModel", "needs", "(IIII)J"⟩, 27), (⟨"PlaceRectanglesModel", "prove", "()V"⟩, 27), (⟨"PlaceRectanglesModel", "isPossible", "(IIIIII)Z"⟩, 27)]
theorem lw_r4 : ∀ q ∈ lw_privs_4, lw_okq q := List.forall_mem_cons.mpr ⟨lw_p48, List.forall_mem_cons.mpr ⟨lw_p49, List.forall_mem_cons.mpr ⟨lw_p50, List.forall_mem_cons.mpr ⟨lw_p51, List.forall_mem_cons.mpr ⟨lw_p52, List.forall_mem_cons.mpr ⟨lw_p53, List.forall_mem_cons.mpr ⟨lw_p54, List.forall_mem_cons.mpr ⟨lw_p55, List.forall_mem_cons.mpr ⟨lw_p56, List.forall_mem_cons.mpr ⟨lw_p57, List.forall_mem_cons.mpr ⟨lw_p58, List.forall_mem_cons.mpr ⟨lw_p59, List.forall_mem_cons.mpr ⟨lw_p60, fun _ h => absurd h List.not_mem_nil⟩⟩⟩⟩⟩⟩⟩⟩⟩⟩⟩⟩⟩
def lw_privs : List (MethodName × Nat) := lw_privs_1 ++ (lw_privs_2 ++ (lw_privs_3 ++ (lw_privs_4)))
def lw_tbl : List Cond := k2_sels lw_privs ++ tables_1
theorem lw_privs_ok : ∀ q ∈ lw_privs, lw_okq q := by
  show ∀ q ∈ lw_privs_1 ++ (lw_privs_2 ++ (lw_privs_3 ++ (lw_privs_4))), lw_okq q
  exact List.forall_mem_append.mpr ⟨lw_r1, List.forall_mem_append.mpr ⟨lw_r2, List.forall_mem_append.mpr ⟨lw_r3, lw_r4⟩⟩⟩
end
section
def RX0 : String := "PlaceRectangles$Cuts"
def TX0 : u_T := fun k => match k with
  | 0 => ("PlaceRectangles$Cuts", "laid", "LPlaceRectangles$Laid;", true)
  | 1 => ("PlaceRectangles$Cuts", "nodes", "[I", true)
  | _ => ("PlaceRectangles$Cuts", "pending", "[I", true)
def tyX0 : Nat → FieldType := fun k => match k with
  | 0 => .object "PlaceRectangles$Laid"
  | 1 => .array .int
  | _ => .array .int
abbrev wsX00 : List Cond := u_ws RX0 TX0 3
theorem nmX0 : ∀ a, a < 3 → ∀ b, b < 3 → a ≠ b → (TX0 a).2.1 ≠ (TX0 b).2.1 := by decide +kernel
theorem tyX0_ok : ∀ k, k < 3 → parseFieldDescriptor (TX0 k).2.2.1 = some (tyX0 k) := by decide +kernel
abbrev cX0_init : ByteArray := prog_2_method_1_code
def yX0_init : MethodName := ⟨RX0, "<init>", "(LPlaceRectangles$Laid;)V"⟩
abbrev cX0_build : ByteArray := prog_2_method_2_code
def yX0_build : MethodName := ⟨RX0, "build", "()I"⟩
abbrev cX0_write : ByteArray := prog_2_method_3_code
def yX0_write : MethodName := ⟨RX0, "write", "(IIIII)V"⟩
abbrev cX0_axisOfCut : ByteArray := prog_2_method_4_code
def yX0_axisOfCut : MethodName := ⟨RX0, "axisOfCut", "(I)I"⟩
abbrev cX0_cutPlaces : ByteArray := prog_2_method_5_code
def yX0_cutPlaces : MethodName := ⟨RX0, "cutPlaces", "(II)I"⟩
abbrev cX0_boxesBefore : ByteArray := prog_2_method_6_code
def yX0_boxesBefore : MethodName := ⟨RX0, "boxesBefore", "(III)I"⟩
def RX1 : String := "PlaceRectangles$Duals"
def TX1 : u_T := fun k => match k with
  | 0 => ("PlaceRectangles$Duals", "stock", "LPlaceRectangles$Stock;", true)
  | 1 => ("PlaceRectangles$Duals", "found", "[I", true)
  | 2 => ("PlaceRectangles$Duals", "values", "[I", true)
  | 3 => ("PlaceRectangles$Duals", "extents", "[I", true)
  | 4 => ("PlaceRectangles$Duals", "firstTurn", "[I", true)
  | 5 => ("PlaceRectangles$Duals", "areas", "[I", true)
  | 6 => ("PlaceRectangles$Duals", "binArea", "I", false)
  | 7 => ("PlaceRectangles$Duals", "tried", "[I", true)
  | 8 => ("PlaceRectangles$Duals", "prepared", "Z", false)
  | _ => ("PlaceRectangles$Duals", "sought", "Z", false)
def tyX1 : Nat → FieldType := fun k => match k with
  | 0 => .object "PlaceRectangles$Stock"
  | 1 => .array .int
  | 2 => .array .int
  | 3 => .array .int
  | 4 => .array .int
  | 5 => .array .int
  | 6 => .int
  | 7 => .array .int
  | 8 => .boolean
  | _ => .boolean
abbrev wsX10 : List Cond := u_ws RX1 TX1 10
theorem nmX1 : ∀ a, a < 10 → ∀ b, b < 10 → a ≠ b → (TX1 a).2.1 ≠ (TX1 b).2.1 := by decide +kernel
theorem tyX1_ok : ∀ k, k < 10 → parseFieldDescriptor (TX1 k).2.2.1 = some (tyX1 k) := by decide +kernel
abbrev cX1_init : ByteArray := prog_3_method_1_code
def yX1_init : MethodName := ⟨RX1, "<init>", "(LPlaceRectangles$Stock;)V"⟩
abbrev cX1_forget : ByteArray := prog_3_method_2_code
def yX1_forget : MethodName := ⟨RX1, "forget", "()V"⟩
abbrev cX1_lastFunction : ByteArray := prog_3_method_3_code
def yX1_lastFunction : MethodName := ⟨RX1, "lastFunction", "(I)I"⟩
abbrev cX1_isFunction : ByteArray := prog_3_method_4_code
def yX1_isFunction : MethodName := ⟨RX1, "isFunction", "(II)Z"⟩
abbrev cX1_valueOf : ByteArray := prog_3_method_5_code
def yX1_valueOf : MethodName := ⟨RX1, "valueOf", "(III)I"⟩
abbrev cX1_prepare : ByteArray := prog_3_method_6_code
def yX1_prepare : MethodName := ⟨RX1, "prepare", "()V"⟩
abbrev cX1_tellValues : ByteArray := prog_3_method_7_code
def yX1_tellValues : MethodName := ⟨RX1, "tellValues", "(I)V"⟩
abbrev cX1_tellTurns : ByteArray := prog_3_method_8_code
def yX1_tellTurns : MethodName := ⟨RX1, "tellTurns", "(II)I"⟩
abbrev cX1_choose : ByteArray := prog_3_method_9_code
def yX1_choose : MethodName := ⟨RX1, "choose", "(II)V"⟩
abbrev cX1_binHas : ByteArray := prog_3_method_10_code
def yX1_binHas : MethodName := ⟨RX1, "binHas", "(I)I"⟩
abbrev cX1_needOf : ByteArray := prog_3_method_11_code
def yX1_needOf : MethodName := ⟨RX1, "needOf", "(II)I"⟩
abbrev cX1_proves : ByteArray := prog_3_method_12_code
def yX1_proves : MethodName := ⟨RX1, "proves", "(II)Z"⟩
abbrev cX1_seekProof : ByteArray := prog_3_method_13_code
def yX1_seekProof : MethodName := ⟨RX1, "seekProof", "()V"⟩
abbrev cX1_seekOnLastAxis : ByteArray := prog_3_method_14_code
def yX1_seekOnLastAxis : MethodName := ⟨RX1, "seekOnLastAxis", "(II)Z"⟩
abbrev cX1_isTried : ByteArray := prog_3_method_15_code
def yX1_isTried : MethodName := ⟨RX1, "isTried", "(II)Z"⟩
abbrev cX1_leaveOutIdle : ByteArray := prog_3_method_16_code
def yX1_leaveOutIdle : MethodName := ⟨RX1, "leaveOutIdle", "(I)V"⟩
abbrev cX1_givesNoLess : ByteArray := prog_3_method_17_code
def yX1_givesNoLess : MethodName := ⟨RX1, "givesNoLess", "(III)Z"⟩
abbrev cX1_keep : ByteArray := prog_3_method_18_code
def yX1_keep : MethodName := ⟨RX1, "keep", "(IIII)V"⟩
abbrev cX1_reason : ByteArray := prog_3_method_19_code
def yX1_reason : MethodName := ⟨RX1, "reason", "(I)I"⟩
def RX2 : String := "PlaceRectangles$Laid"
def TX2 : u_T := fun k => match k with
  | 0 => ("PlaceRectangles$Laid", "stock", "LPlaceRectangles$Stock;", true)
  | 1 => ("PlaceRectangles$Laid", "turnOf", "[I", true)
  | 2 => ("PlaceRectangles$Laid", "begins", "[I", true)
  | 3 => ("PlaceRectangles$Laid", "ends", "[I", true)
  | _ => ("PlaceRectangles$Laid", "members", "I", false)
def tyX2 : Nat → FieldType := fun k => match k with
  | 0 => .object "PlaceRectangles$Stock"
  | 1 => .array .int
  | 2 => .array .int
  | 3 => .array .int
  | _ => .int
abbrev wsX20 : List Cond := u_ws RX2 TX2 5
theorem nmX2 : ∀ a, a < 5 → ∀ b, b < 5 → a ≠ b → (TX2 a).2.1 ≠ (TX2 b).2.1 := by decide +kernel
theorem tyX2_ok : ∀ k, k < 5 → parseFieldDescriptor (TX2 k).2.2.1 = some (tyX2 k) := by decide +kernel
abbrev cX2_init : ByteArray := prog_4_method_1_code
def yX2_init : MethodName := ⟨RX2, "<init>", "(LPlaceRectangles$Stock;)V"⟩
abbrev cX2_holds : ByteArray := prog_4_method_2_code
def yX2_holds : MethodName := ⟨RX2, "holds", "(I)Z"⟩
abbrev cX2_takeAway : ByteArray := prog_4_method_3_code
def yX2_takeAway : MethodName := ⟨RX2, "takeAway", "(I)V"⟩
abbrev cX2_takeAllAway : ByteArray := prog_4_method_4_code
def yX2_takeAllAway : MethodName := ⟨RX2, "takeAllAway", "()V"⟩
abbrev cX2_put : ByteArray := prog_4_method_5_code
def yX2_put : MethodName := ⟨RX2, "put", "(IIIII)V"⟩
abbrev cX2_extentOf : ByteArray := prog_4_method_6_code
def yX2_extentOf : MethodName := ⟨RX2, "extentOf", "(II)I"⟩
abbrev cX2_overlapCount : ByteArray := prog_4_method_7_code
def yX2_overlapCount : MethodName := ⟨RX2, "overlapCount", "()I"⟩
abbrev cX2_firstGap : ByteArray := prog_4_method_8_code
def yX2_firstGap : MethodName := ⟨RX2, "firstGap", "(II)I"⟩
abbrev cX2_heldArea : ByteArray := prog_4_method_9_code
def yX2_heldArea : MethodName := ⟨RX2, "heldArea", "(I)I"⟩
abbrev cX2_commonLength : ByteArray := prog_4_method_10_code
def yX2_commonLength : MethodName := ⟨RX2, "commonLength", "(III)I"⟩
abbrev cX2_weightSum : ByteArray := prog_4_method_11_code
def yX2_weightSum : MethodName := ⟨RX2, "weightSum", "()I"⟩
abbrev cX2_doubledMoment : ByteArray := prog_4_method_12_code
def yX2_doubledMoment : MethodName := ⟨RX2, "doubledMoment", "(I)I"⟩
def RX3 : String := "PlaceRectangles$Search"
def TX3 : u_T := fun k => match k with
  | 0 => ("PlaceRectangles$Search", "stock", "LPlaceRectangles$Stock;", true)
  | 1 => ("PlaceRectangles$Search", "order", "[I", true)
  | 2 => ("PlaceRectangles$Search", "coordinates", "[I", true)
  | 3 => ("PlaceRectangles$Search", "turnAt", "[I", true)
  | 4 => ("PlaceRectangles$Search", "turnExtents", "[I", true)
  | 5 => ("PlaceRectangles$Search", "turnCoordinates", "[I", true)
  | 6 => ("PlaceRectangles$Search", "begins", "[I", true)
  | 7 => ("PlaceRectangles$Search", "ends", "[I", true)
  | 8 => ("PlaceRectangles$Search", "layersLeft", "[I", true)
  | 9 => ("PlaceRectangles$Search", "rowsLeft", "[I", true)
  | 10 => ("PlaceRectangles$Search", "waysLeft", "[I", true)
  | 11 => ("PlaceRectangles$Search", "freeLeft", "[I", true)
  | 12 => ("PlaceRectangles$Search", "depth", "I", false)
  | 13 => ("PlaceRectangles$Search", "workLeft", "I", false)
  | 14 => ("PlaceRectangles$Search", "workDone", "I", false)
  | _ => ("PlaceRectangles$Search", "outcome", "I", false)
def tyX3 : Nat → FieldType := fun k => match k with
  | 0 => .object "PlaceRectangles$Stock"
  | 1 => .array .int
  | 2 => .array .int
  | 3 => .array .int
  | 4 => .array .int
  | 5 => .array .int
  | 6 => .array .int
  | 7 => .array .int
  | 8 => .array .int
  | 9 => .array .int
  | 10 => .array .int
  | 11 => .array .int
  | 12 => .int
  | 13 => .int
  | 14 => .int
  | _ => .int
abbrev wsX30 : List Cond := u_ws RX3 TX3 16
theorem nmX3 : ∀ a, a < 16 → ∀ b, b < 16 → a ≠ b → (TX3 a).2.1 ≠ (TX3 b).2.1 := by decide +kernel
theorem tyX3_ok : ∀ k, k < 16 → parseFieldDescriptor (TX3 k).2.2.1 = some (tyX3 k) := by decide +kernel
abbrev cX3_init : ByteArray := prog_5_method_1_code
def yX3_init : MethodName := ⟨RX3, "<init>", "(LPlaceRectangles$Stock;)V"⟩
abbrev cX3_restart : ByteArray := prog_5_method_2_code
def yX3_restart : MethodName := ⟨RX3, "restart", "()V"⟩
abbrev cX3_orderBoxes : ByteArray := prog_5_method_3_code
def yX3_orderBoxes : MethodName := ⟨RX3, "orderBoxes", "()V"⟩
abbrev cX3_sumsOfOthers : ByteArray := prog_5_method_4_code
def yX3_sumsOfOthers : MethodName := ⟨RX3, "sumsOfOthers", "(II)I"⟩
abbrev cX3_withExtents : ByteArray := prog_5_method_5_code
def yX3_withExtents : MethodName := ⟨RX3, "withExtents", "(III)I"⟩
abbrev cX3_coordinateCount : ByteArray := prog_5_method_6_code
def yX3_coordinateCount : MethodName := ⟨RX3, "coordinateCount", "(II)I"⟩
abbrev cX3_wayCount : ByteArray := prog_5_method_7_code
def yX3_wayCount : MethodName := ⟨RX3, "wayCount", "(I)I"⟩
abbrev cX3_wayCoordinates : ByteArray := prog_5_method_8_code
def yX3_wayCoordinates : MethodName := ⟨RX3, "wayCoordinates", "(III)I"⟩
abbrev cX3_goOn : ByteArray := prog_5_method_9_code
def yX3_goOn : MethodName := ⟨RX3, "goOn", "(I)I"⟩
abbrev cX3_enter : ByteArray := prog_5_method_10_code
def yX3_enter : MethodName := ⟨RX3, "enter", "(I)V"⟩
abbrev cX3_goBack : ByteArray := prog_5_method_11_code
def yX3_goBack : MethodName := ⟨RX3, "goBack", "()V"⟩
abbrev cX3_nextRow : ByteArray := prog_5_method_12_code
def yX3_nextRow : MethodName := ⟨RX3, "nextRow", "()Z"⟩
abbrev cX3_nextLayer : ByteArray := prog_5_method_13_code
def yX3_nextLayer : MethodName := ⟨RX3, "nextLayer", "()V"⟩
abbrev cX3_nextTurn : ByteArray := prog_5_method_14_code
def yX3_nextTurn : MethodName := ⟨RX3, "nextTurn", "()V"⟩
abbrev cX3_turnTo : ByteArray := prog_5_method_15_code
def yX3_turnTo : MethodName := ⟨RX3, "turnTo", "(II)V"⟩
abbrev cX3_setAxis : ByteArray := prog_5_method_16_code
def yX3_setAxis : MethodName := ⟨RX3, "setAxis", "(II)V"⟩
abbrev cX3_blockedInRow : ByteArray := prog_5_method_17_code
def yX3_blockedInRow : MethodName := ⟨RX3, "blockedInRow", "()I"⟩
abbrev cX3_lookAlongRow : ByteArray := prog_5_method_18_code
def yX3_lookAlongRow : MethodName := ⟨RX3, "lookAlongRow", "()V"⟩
abbrev cX3_lookAtBlocked : ByteArray := prog_5_method_19_code
def yX3_lookAtBlocked : MethodName := ⟨RX3, "lookAtBlocked", "()V"⟩
abbrev cX3_take : ByteArray := prog_5_method_20_code
def yX3_take : MethodName := ⟨RX3, "take", "(I)V"⟩
def RX4 : String := "PlaceRectangles$Stock"
def TX4 : u_T := fun k => match k with
  | 0 => ("PlaceRectangles$Stock", "lengths", "[I", true)
  | 1 => ("PlaceRectangles$Stock", "sides", "[I", true)
  | 2 => ("PlaceRectangles$Stock", "turnBits", "[I", true)
  | 3 => ("PlaceRectangles$Stock", "weights", "[I", true)
  | _ => ("PlaceRectangles$Stock", "count", "I", false)
def tyX4 : Nat → FieldType := fun k => match k with
  | 0 => .array .int
  | 1 => .array .int
  | 2 => .array .int
  | 3 => .array .int
  | _ => .int
abbrev wsX40 : List Cond := u_ws RX4 TX4 5
theorem nmX4 : ∀ a, a < 5 → ∀ b, b < 5 → a ≠ b → (TX4 a).2.1 ≠ (TX4 b).2.1 := by decide +kernel
theorem tyX4_ok : ∀ k, k < 5 → parseFieldDescriptor (TX4 k).2.2.1 = some (tyX4 k) := by decide +kernel
abbrev cX4_init : ByteArray := prog_6_method_1_code
def yX4_init : MethodName := ⟨RX4, "<init>", "()V"⟩
abbrev cX4_append : ByteArray := prog_6_method_2_code
def yX4_append : MethodName := ⟨RX4, "append", "(III)V"⟩
abbrev cX4_isBox : ByteArray := prog_6_method_3_code
def yX4_isBox : MethodName := ⟨RX4, "isBox", "(I)Z"⟩
abbrev cX4_allBoxes : ByteArray := prog_6_method_4_code
def yX4_allBoxes : MethodName := ⟨RX4, "allBoxes", "()I"⟩
abbrev cX4_extent : ByteArray := prog_6_method_5_code
def yX4_extent : MethodName := ⟨RX4, "extent", "(III)I"⟩
abbrev cX4_volume : ByteArray := prog_6_method_6_code
def yX4_volume : MethodName := ⟨RX4, "volume", "(I)I"⟩
abbrev cX4_hasTurn : ByteArray := prog_6_method_7_code
def yX4_hasTurn : MethodName := ⟨RX4, "hasTurn", "(II)Z"⟩
abbrev cX4_sameExtents : ByteArray := prog_6_method_8_code
def yX4_sameExtents : MethodName := ⟨RX4, "sameExtents", "(III)Z"⟩
abbrev cX4_isShort : ByteArray := prog_6_method_9_code
def yX4_isShort : MethodName := ⟨RX4, "isShort", "(II)Z"⟩
abbrev cX4_counts : ByteArray := prog_6_method_10_code
def yX4_counts : MethodName := ⟨RX4, "counts", "(II)Z"⟩
abbrev cX4_isPlace : ByteArray := prog_6_method_11_code
def yX4_isPlace : MethodName := ⟨RX4, "isPlace", "(IIIII)Z"⟩
abbrev cX4_liesWithin : ByteArray := prog_6_method_12_code
def yX4_liesWithin : MethodName := ⟨RX4, "liesWithin", "(III)Z"⟩
abbrev cX4_hasRoomBeside : ByteArray := prog_6_method_13_code
def yX4_hasRoomBeside : MethodName := ⟨RX4, "hasRoomBeside", "(IIIIII)Z"⟩
def RX5 : String := "PlaceRectangles"
def TX5 : u_T := fun k => match k with
  | 0 => ("PlaceRectangles", "stock", "LPlaceRectangles$Stock;", true)
  | 1 => ("PlaceRectangles", "search", "LPlaceRectangles$Search;", true)
  | 2 => ("PlaceRectangles", "laid", "LPlaceRectangles$Laid;", true)
  | 3 => ("PlaceRectangles", "cuts", "LPlaceRectangles$Cuts;", true)
  | _ => ("PlaceRectangles", "duals", "LPlaceRectangles$Duals;", true)
def tyX5 : Nat → FieldType := fun k => match k with
  | 0 => .object "PlaceRectangles$Stock"
  | 1 => .object "PlaceRectangles$Search"
  | 2 => .object "PlaceRectangles$Laid"
  | 3 => .object "PlaceRectangles$Cuts"
  | _ => .object "PlaceRectangles$Duals"
abbrev wsX50 : List Cond := u_ws RX5 TX5 5
theorem nmX5 : ∀ a, a < 5 → ∀ b, b < 5 → a ≠ b → (TX5 a).2.1 ≠ (TX5 b).2.1 := by decide +kernel
theorem tyX5_ok : ∀ k, k < 5 → parseFieldDescriptor (TX5 k).2.2.1 = some (tyX5 k) := by decide +kernel
abbrev cX5_init : ByteArray := prog_1_method_1_code
def yX5_init : MethodName := ⟨RX5, "<init>", "()V"⟩
abbrev cX5_bin : ByteArray := prog_1_method_2_code
def yX5_bin : MethodName := ⟨RX5, "bin", "(III)I"⟩
abbrev cX5_box : ByteArray := prog_1_method_3_code
def yX5_box : MethodName := ⟨RX5, "box", "(III)I"⟩
abbrev cX5_turns : ByteArray := prog_1_method_4_code
def yX5_turns : MethodName := ⟨RX5, "turns", "(II)I"⟩
abbrev cX5_weight : ByteArray := prog_1_method_5_code
def yX5_weight : MethodName := ⟨RX5, "weight", "(II)I"⟩
abbrev cX5_clear : ByteArray := prog_1_method_6_code
def yX5_clear : MethodName := ⟨RX5, "clear", "()I"⟩
abbrev cX5_run : ByteArray := prog_1_method_7_code
def yX5_run : MethodName := ⟨RX5, "run", "(I)I"⟩
abbrev cX5_told : ByteArray := prog_1_method_8_code
def yX5_told : MethodName := ⟨RX5, "told", "(II)I"⟩
abbrev cX5_plan : ByteArray := prog_1_method_9_code
def yX5_plan : MethodName := ⟨RX5, "plan", "()I"⟩
abbrev cX5_lay : ByteArray := prog_1_method_10_code
def yX5_lay : MethodName := ⟨RX5, "lay", "(IIIII)I"⟩
abbrev cX5_lift : ByteArray := prog_1_method_11_code
def yX5_lift : MethodName := ⟨RX5, "lift", "(I)I"⟩
abbrev cX5_place : ByteArray := prog_1_method_12_code
def yX5_place : MethodName := ⟨RX5, "place", "(II)I"⟩
abbrev cX5_overlaps : ByteArray := prog_1_method_13_code
def yX5_overlaps : MethodName := ⟨RX5, "overlaps", "()I"⟩
abbrev cX5_relative : ByteArray := prog_1_method_14_code
def yX5_relative : MethodName := ⟨RX5, "relative", "(II)I"⟩
abbrev cX5_support : ByteArray := prog_1_method_15_code
def yX5_support : MethodName := ⟨RX5, "support", "(I)I"⟩
abbrev cX5_centre : ByteArray := prog_1_method_16_code
def yX5_centre : MethodName := ⟨RX5, "centre", "(II)I"⟩
abbrev cX5_tree : ByteArray := prog_1_method_17_code
def yX5_tree : MethodName := ⟨RX5, "tree", "()I"⟩
abbrev cX5_node : ByteArray := prog_1_method_18_code
def yX5_node : MethodName := ⟨RX5, "node", "(II)I"⟩
abbrev cX5_dual : ByteArray := prog_1_method_19_code
def yX5_dual : MethodName := ⟨RX5, "dual", "(III)I"⟩
abbrev cX5_need : ByteArray := prog_1_method_20_code
def yX5_need : MethodName := ⟨RX5, "need", "(IIII)J"⟩
abbrev cX5_proof : ByteArray := prog_1_method_21_code
def yX5_proof : MethodName := ⟨RX5, "proof", "(I)I"⟩
abbrev cX5_none : ByteArray := prog_1_method_22_code
def yX5_none : MethodName := ⟨RX5, "none", "(IIIII)I"⟩
abbrev cX5_beginAnew : ByteArray := prog_1_method_23_code
def yX5_beginAnew : MethodName := ⟨RX5, "beginAnew", "()V"⟩
abbrev cX5_isLength : ByteArray := prog_1_method_24_code
def yX5_isLength : MethodName := ⟨RX5, "isLength", "(I)Z"⟩
abbrev cX5_isAxis : ByteArray := prog_1_method_25_code
def yX5_isAxis : MethodName := ⟨RX5, "isAxis", "(I)Z"⟩
abbrev cX5_lowest : ByteArray := prog_1_method_26_code
def yX5_lowest : MethodName := ⟨RX5, "lowest", "(I)I"⟩
abbrev cX5_commonDivisor : ByteArray := prog_1_method_27_code
def yX5_commonDivisor : MethodName := ⟨RX5, "commonDivisor", "(II)I"⟩
def RX6 : String := "PlaceRectanglesModel"
def TX6 : u_T := fun k => match k with
  | 0 => ("PlaceRectanglesModel", "length", "[I", true)
  | 1 => ("PlaceRectanglesModel", "boxes", "I", false)
  | 2 => ("PlaceRectanglesModel", "side", "[I", true)
  | 3 => ("PlaceRectanglesModel", "weights", "[I", true)
  | 4 => ("PlaceRectanglesModel", "turned", "[I", true)
  | 5 => ("PlaceRectanglesModel", "laid", "[I", true)
  | 6 => ("PlaceRectanglesModel", "at", "[I", true)
  | 7 => ("PlaceRectanglesModel", "status", "I", false)
  | 8 => ("PlaceRectanglesModel", "depth", "I", false)
  | 9 => ("PlaceRectanglesModel", "work", "J", false)
  | 10 => ("PlaceRectanglesModel", "order", "[I", true)
  | 11 => ("PlaceRectanglesModel", "next", "[I", true)
  | 12 => ("PlaceRectanglesModel", "planTurn", "[I", true)
  | 13 => ("PlaceRectanglesModel", "planAt", "[I", true)
  | 14 => ("PlaceRectanglesModel", "sums", "[Z", true)
  | 15 => ("PlaceRectanglesModel", "kept", "[I", true)
  | 16 => ("PlaceRectanglesModel", "keptWays", "[I", true)
  | 17 => ("PlaceRectanglesModel", "nodeAxis", "[I", true)
  | 18 => ("PlaceRectanglesModel", "nodePlace", "[I", true)
  | 19 => ("PlaceRectanglesModel", "nodeOne", "[I", true)
  | 20 => ("PlaceRectanglesModel", "nodeTwo", "[I", true)
  | 21 => ("PlaceRectanglesModel", "nodes", "I", false)
  | 22 => ("PlaceRectanglesModel", "pileSet", "[I", true)
  | 23 => ("PlaceRectanglesModel", "pileOver", "[I", true)
  | 24 => ("PlaceRectanglesModel", "pileSide", "[I", true)
  | 25 => ("PlaceRectanglesModel", "proved", "Z", false)
  | _ => ("PlaceRectanglesModel", "proof", "[I", true)
def tyX6 : Nat → FieldType := fun k => match k with
  | 0 => .array .int
  | 1 => .int
  | 2 => .array .int
  | 3 => .array .int
  | 4 => .array .int
  | 5 => .array .int
  | 6 => .array .int
  | 7 => .int
  | 8 => .int
  | 9 => .long
  | 10 => .array .int
  | 11 => .array .int
  | 12 => .array .int
  | 13 => .array .int
  | 14 => .array .boolean
  | 15 => .array .int
  | 16 => .array .int
  | 17 => .array .int
  | 18 => .array .int
  | 19 => .array .int
  | 20 => .array .int
  | 21 => .int
  | 22 => .array .int
  | 23 => .array .int
  | 24 => .array .int
  | 25 => .boolean
  | _ => .array .int
abbrev wsX60 : List Cond := u_ws RX6 TX6 27
theorem nmX6 : ∀ a, a < 27 → ∀ b, b < 27 → a ≠ b → (TX6 a).2.1 ≠ (TX6 b).2.1 := by decide +kernel
theorem tyX6_ok : ∀ k, k < 27 → parseFieldDescriptor (TX6 k).2.2.1 = some (tyX6 k) := by decide +kernel
abbrev cX6_init : ByteArray := prog_8_method_1_code
def yX6_init : MethodName := ⟨RX6, "<init>", "()V"⟩
abbrev cX6_sideOf : ByteArray := prog_8_method_2_code
def yX6_sideOf : MethodName := ⟨RX6, "sideOf", "(II)I"⟩
abbrev cX6_extent : ByteArray := prog_8_method_3_code
def yX6_extent : MethodName := ⟨RX6, "extent", "(III)I"⟩
abbrev cX6_has : ByteArray := prog_8_method_4_code
def yX6_has : MethodName := ⟨RX6, "has", "(II)Z"⟩
abbrev cX6_anew : ByteArray := prog_8_method_5_code
def yX6_anew : MethodName := ⟨RX6, "anew", "()V"⟩
abbrev cX6_volume : ByteArray := prog_8_method_6_code
def yX6_volume : MethodName := ⟨RX6, "volume", "(I)I"⟩
abbrev cX6_isSum : ByteArray := prog_8_method_7_code
def yX6_isSum : MethodName := ⟨RX6, "isSum", "(III)Z"⟩
abbrev cX6_sum : ByteArray := prog_8_method_8_code
def yX6_sum : MethodName := ⟨RX6, "sum", "(II)V"⟩
abbrev cX6_isFirst : ByteArray := prog_8_method_9_code
def yX6_isFirst : MethodName := ⟨RX6, "isFirst", "(II)Z"⟩
abbrev cX6_many : ByteArray := prog_8_method_10_code
def yX6_many : MethodName := ⟨RX6, "many", "(III)I"⟩
abbrev cX6_waysOf : ByteArray := prog_8_method_11_code
def yX6_waysOf : MethodName := ⟨RX6, "waysOf", "(II)I"⟩
abbrev cX6_counted : ByteArray := prog_8_method_12_code
def yX6_counted : MethodName := ⟨RX6, "counted", "(III)I"⟩
abbrev cX6_ways : ByteArray := prog_8_method_13_code
def yX6_ways : MethodName := ⟨RX6, "ways", "(I)I"⟩
abbrev cX6_coordinate : ByteArray := prog_8_method_14_code
def yX6_coordinate : MethodName := ⟨RX6, "coordinate", "(III)I"⟩
abbrev cX6_goes : ByteArray := prog_8_method_15_code
def yX6_goes : MethodName := ⟨RX6, "goes", "(II)V"⟩
abbrev cX6_isApart : ByteArray := prog_8_method_16_code
def yX6_isApart : MethodName := ⟨RX6, "isApart", "(IIII)Z"⟩
abbrev cX6_isPlanned : ByteArray := prog_8_method_17_code
def yX6_isPlanned : MethodName := ⟨RX6, "isPlanned", "(I)Z"⟩
abbrev cX6_run : ByteArray := prog_8_method_18_code
def yX6_run : MethodName := ⟨RX6, "run", "(I)I"⟩
abbrev cX6_bin : ByteArray := prog_8_method_19_code
def yX6_bin : MethodName := ⟨RX6, "bin", "(III)I"⟩
abbrev cX6_isSide : ByteArray := prog_8_method_20_code
def yX6_isSide : MethodName := ⟨RX6, "isSide", "(I)Z"⟩
abbrev cX6_box : ByteArray := prog_8_method_21_code
def yX6_box : MethodName := ⟨RX6, "box", "(III)I"⟩
abbrev cX6_isBox : ByteArray := prog_8_method_22_code
def yX6_isBox : MethodName := ⟨RX6, "isBox", "(I)Z"⟩
abbrev cX6_turns : ByteArray := prog_8_method_23_code
def yX6_turns : MethodName := ⟨RX6, "turns", "(II)I"⟩
abbrev cX6_weight : ByteArray := prog_8_method_24_code
def yX6_weight : MethodName := ⟨RX6, "weight", "(II)I"⟩
abbrev cX6_clear : ByteArray := prog_8_method_25_code
def yX6_clear : MethodName := ⟨RX6, "clear", "()I"⟩
abbrev cX6_told : ByteArray := prog_8_method_26_code
def yX6_told : MethodName := ⟨RX6, "told", "(II)I"⟩
abbrev cX6_plan : ByteArray := prog_8_method_27_code
def yX6_plan : MethodName := ⟨RX6, "plan", "()I"⟩
abbrev cX6_isPlace : ByteArray := prog_8_method_28_code
def yX6_isPlace : MethodName := ⟨RX6, "isPlace", "(IIIII)Z"⟩
abbrev cX6_lay : ByteArray := prog_8_method_29_code
def yX6_lay : MethodName := ⟨RX6, "lay", "(IIIII)I"⟩
abbrev cX6_lift : ByteArray := prog_8_method_30_code
def yX6_lift : MethodName := ⟨RX6, "lift", "(I)I"⟩
abbrev cX6_begin : ByteArray := prog_8_method_31_code
def yX6_begin : MethodName := ⟨RX6, "begin", "(II)I"⟩
abbrev cX6_end : ByteArray := prog_8_method_32_code
def yX6_end : MethodName := ⟨RX6, "end", "(II)I"⟩
abbrev cX6_place : ByteArray := prog_8_method_33_code
def yX6_place : MethodName := ⟨RX6, "place", "(II)I"⟩
abbrev cX6_apart : ByteArray := prog_8_method_34_code
def yX6_apart : MethodName := ⟨RX6, "apart", "(II)I"⟩
abbrev cX6_overlaps : ByteArray := prog_8_method_35_code
def yX6_overlaps : MethodName := ⟨RX6, "overlaps", "()I"⟩
abbrev cX6_relative : ByteArray := prog_8_method_36_code
def yX6_relative : MethodName := ⟨RX6, "relative", "(II)I"⟩
abbrev cX6_common : ByteArray := prog_8_method_37_code
def yX6_common : MethodName := ⟨RX6, "common", "(III)I"⟩
abbrev cX6_support : ByteArray := prog_8_method_38_code
def yX6_support : MethodName := ⟨RX6, "support", "(I)I"⟩
abbrev cX6_centre : ByteArray := prog_8_method_39_code
def yX6_centre : MethodName := ⟨RX6, "centre", "(II)I"⟩
abbrev cX6_planted : ByteArray := prog_8_method_40_code
def yX6_planted : MethodName := ⟨RX6, "planted", "()I"⟩
abbrev cX6_firstOf : ByteArray := prog_8_method_41_code
def yX6_firstOf : MethodName := ⟨RX6, "firstOf", "(I)I"⟩
abbrev cX6_cutOf : ByteArray := prog_8_method_42_code
def yX6_cutOf : MethodName := ⟨RX6, "cutOf", "(I)I"⟩
abbrev cX6_before : ByteArray := prog_8_method_43_code
def yX6_before : MethodName := ⟨RX6, "before", "(III)I"⟩
abbrev cX6_tree : ByteArray := prog_8_method_44_code
def yX6_tree : MethodName := ⟨RX6, "tree", "()I"⟩
abbrev cX6_node : ByteArray := prog_8_method_45_code
def yX6_node : MethodName := ⟨RX6, "node", "(II)I"⟩
abbrev cX6_worth : ByteArray := prog_8_method_46_code
def yX6_worth : MethodName := ⟨RX6, "worth", "(III)I"⟩
abbrev cX6_isDual : ByteArray := prog_8_method_47_code
def yX6_isDual : MethodName := ⟨RX6, "isDual", "(II)Z"⟩
abbrev cX6_dual : ByteArray := prog_8_method_48_code
def yX6_dual : MethodName := ⟨RX6, "dual", "(III)I"⟩
abbrev cX6_has_ : ByteArray := prog_8_method_49_code
def yX6_has_ : MethodName := ⟨RX6, "has", "(III)J"⟩
abbrev cX6_needs : ByteArray := prog_8_method_50_code
def yX6_needs : MethodName := ⟨RX6, "needs", "(IIII)J"⟩
abbrev cX6_need : ByteArray := prog_8_method_51_code
def yX6_need : MethodName := ⟨RX6, "need", "(IIII)J"⟩
abbrev cX6_prove : ByteArray := prog_8_method_52_code
def yX6_prove : MethodName := ⟨RX6, "prove", "()V"⟩
abbrev cX6_proof : ByteArray := prog_8_method_53_code
def yX6_proof : MethodName := ⟨RX6, "proof", "(I)I"⟩
abbrev cX6_none : ByteArray := prog_8_method_54_code
def yX6_none : MethodName := ⟨RX6, "none", "(IIIII)I"⟩
abbrev cX6_isPossible : ByteArray := prog_8_method_55_code
def yX6_isPossible : MethodName := ⟨RX6, "isPossible", "(IIIIII)Z"⟩
def RJ6 : String := "java/lang/Integer"
abbrev cJ6_bitCount_0f7a4 : ByteArray := prog_9_method_49_code
def yJ6_bitCount_0f7a4 : MethodName := ⟨RJ6, "bitCount", "(I)I"⟩
def RJ9 : String := "java/lang/Math"
abbrev cJ9_max_7cf53 : ByteArray := prog_10_method_65_code
def yJ9_max_7cf53 : MethodName := ⟨RJ9, "max", "(II)I"⟩
abbrev cJ9_min_7cf53 : ByteArray := prog_10_method_69_code
def yJ9_min_7cf53 : MethodName := ⟨RJ9, "min", "(II)I"⟩
def RL : String := "PlaceRectanglesLaw"
abbrev cL_law : ByteArray := code
def yL_law : MethodName := ⟨RL, "law", "([I)Z"⟩
abbrev vwCl : List vw_C := [(RX0, TX0, 3), (RX1, TX1, 10), (RX2, TX2, 5), (RX3, TX3, 16), (RX4, TX4, 5), (RX5, TX5, 5), (RX6, TX6, 27)]
end
section
/-! numbers: ints and longs as the images of whole numbers -/
def iI (z : Int) : Int32 := Int32.ofInt z
def iL (z : Int) : Int64 := Int64.ofInt z
abbrev inR (z : Int) : Prop := -2147483648 ≤ z ∧ z ≤ 2147483647
abbrev inL (z : Int) : Prop := -9223372036854775808 ≤ z ∧ z ≤ 9223372036854775807
theorem iI_of (x : Int32) : iI x.toInt = x := Int32.ofInt_toInt x
theorem iI_inR (x : Int32) : inR x.toInt := by
  have h1 := Int32.toInt_lt x
  have h2 := Int32.le_toInt x
  constructor <;> omega
theorem iI_toInt {a : Int} (h : inR a) : (iI a).toInt = a := Int32.toInt_ofInt_of_le (by omega) (by omega)
theorem iL_toInt {a : Int} (h : inL a) : (iL a).toInt = a := Int64.toInt_ofInt_of_le (by omega) (by omega)
theorem iI_inj {a b : Int} (ha : inR a) (hb : inR b) : iI a = iI b ↔ a = b := by
  constructor
  · intro h
    have := congrArg Int32.toInt h
    rwa [iI_toInt ha, iI_toInt hb] at this
  · intro h; rw [h]
theorem iI_lt {a b : Int} (ha : inR a) (hb : inR b) : iI a < iI b ↔ a < b := by
  rw [Int32.lt_iff_toInt_lt, iI_toInt ha, iI_toInt hb]
theorem iI_le {a b : Int} (ha : inR a) (hb : inR b) : iI a ≤ iI b ↔ a ≤ b := by
  rw [Int32.le_iff_toInt_le, iI_toInt ha, iI_toInt hb]
theorem iI_zero : iI 0 = 0 := rfl
theorem iI_bv (a : Int) : (iI a).toBitVec = BitVec.ofInt 32 a := rfl
theorem iI_add (a b : Int) : iI a + iI b = iI (a + b) := by
  apply Int32.toBitVec.inj
  rw [Int32.toBitVec_add, iI_bv, iI_bv, iI_bv, BitVec.ofInt_add]
theorem iI_mul (a b : Int) : iI a * iI b = iI (a * b) := by
  apply Int32.toBitVec.inj
  rw [Int32.toBitVec_mul, iI_bv, iI_bv, iI_bv, BitVec.ofInt_mul]
theorem iI_neg (a : Int) : - iI a = iI (-a) := by
  apply Int32.toBitVec.inj
  rw [Int32.toBitVec_neg, iI_bv, iI_bv, BitVec.ofInt_neg]
theorem iI_sub (a b : Int) : iI a - iI b = iI (a - b) := by
  rw [Int32.sub_eq_add_neg, iI_neg, iI_add, Int.sub_eq_add_neg]
theorem iL_bv (a : Int) : (iL a).toBitVec = BitVec.ofInt 64 a := rfl
theorem iL_add (a b : Int) : iL a + iL b = iL (a + b) := by
  apply Int64.toBitVec.inj
  rw [Int64.toBitVec_add, iL_bv, iL_bv, iL_bv, BitVec.ofInt_add]
theorem iL_mul (a b : Int) : iL a * iL b = iL (a * b) := by
  apply Int64.toBitVec.inj
  rw [Int64.toBitVec_mul, iL_bv, iL_bv, iL_bv, BitVec.ofInt_mul]
theorem iI_l {a : Int} (h : inR a) : (iI a).toInt64 = iL a := by
  apply Int64.toInt.inj
  rw [Int32.toInt_toInt64, iI_toInt h, iL_toInt (by omega)]
theorem iL_i (a : Int) : (iL a).toInt32 = iI a := Int64.toInt32_ofInt
theorem iI_cl {a : Int} (h0 : 0 ≤ a) (h : a ≤ 2147483647) : (iI a).toNatClampNeg = a.toNat := by
  show (iI a).toInt.toNat = a.toNat
  rw [iI_toInt (by omega)]
theorem iI_in {a : Int} {n : Nat} (h0 : 0 ≤ a) (h1 : a < n) (hn : a ≤ 2147483647) : vp_in (iI a) n := by
  rw [vp_in_iff, iI_toInt (by omega)]
  exact ⟨h0, h1⟩
theorem iI_div {a b : Int} (ha : 0 ≤ a) (ha2 : a ≤ 2147483647) (hb : 0 < b) (hb2 : b ≤ 2147483647) : iI a / iI b = iI (a / b) := by
  apply Int32.toInt.inj
  have h1 : 0 ≤ a / b := Int.ediv_nonneg ha (by omega)
  have h2 : a / b ≤ a := Int.ediv_le_self b ha
  rw [Int32.toInt_div_of_ne_right _ _ (fun h => ?_), iI_toInt (by omega), iI_toInt (by omega), iI_toInt (by omega), Int.tdiv_eq_ediv_of_nonneg ha]
  have := congrArg Int32.toInt h
  rw [iI_toInt (by omega)] at this
  have h3 : (-1 : Int32).toInt = -1 := rfl
  omega
theorem iI_rem {a b : Int} (ha : 0 ≤ a) (ha2 : a ≤ 2147483647) (hb : 0 < b) (hb2 : b ≤ 2147483647) : iI a - iI a / iI b * iI b = iI (a % b) := by
  rw [iI_div ha ha2 hb hb2, iI_mul, iI_sub]
  congr 1
  have := Int.emod_add_mul_ediv a b
  have e : a / b * b = b * (a / b) := Int.mul_comm _ _
  omega
theorem iI_nz {b : Int} (hb : inR b) (h : b ≠ 0) : ¬ iI b = 0 := by
  rw [← iI_zero, iI_inj hb (by omega)]; exact h
theorem lg_cmp_i {a b : Int} (ha : inL a) (hb : inL b) : lg_cmp (iL a) (iL b) = iI (if b < a then 1 else if a = b then 0 else -1) := by
  unfold lg_cmp
  have h1 : iL a > iL b ↔ b < a := by
    show iL b < iL a ↔ _
    rw [Int64.lt_iff_toInt_lt, iL_toInt ha, iL_toInt hb]
  have h2 : iL a = iL b ↔ a = b := by
    constructor
    · intro h
      have := congrArg Int64.toInt h
      rwa [iL_toInt ha, iL_toInt hb] at this
    · intro h; rw [h]
  by_cases c1 : b < a
  · rw [if_pos (h1.mpr c1), if_pos c1]; rfl
  · rw [if_neg (fun h => c1 (h1.mp h)), if_neg c1]
    by_cases c2 : a = b
    · rw [if_pos (h2.mpr c2), if_pos c2]; rfl
    · rw [if_neg (fun h => c2 (h2.mp h)), if_neg c2]; rfl
/-! bits of numbers that are not negative -/
theorem iI_bvn (x : Nat) : (iI (x : Int)).toBitVec = BitVec.ofNat 32 x := by
  rw [iI_bv, BitVec.ofInt_natCast]
theorem iI_and (x y : Nat) (hx : x < 4294967296) (hy : y < 4294967296) : iI (x : Int) &&& iI (y : Int) = iI ((x &&& y : Nat) : Int) := by
  apply Int32.toBitVec.inj
  rw [Int32.toBitVec_and, iI_bvn, iI_bvn, iI_bvn]
  apply BitVec.eq_of_toNat_eq
  rw [BitVec.toNat_and, BitVec.toNat_ofNat, BitVec.toNat_ofNat, BitVec.toNat_ofNat, Nat.mod_eq_of_lt hx, Nat.mod_eq_of_lt hy, Nat.mod_eq_of_lt (Nat.lt_of_le_of_lt Nat.and_le_left hx)]
theorem iI_or (x y : Nat) (hx : x < 4294967296) (hy : y < 4294967296) : iI (x : Int) ||| iI (y : Int) = iI ((x ||| y : Nat) : Int) := by
  apply Int32.toBitVec.inj
  rw [Int32.toBitVec_or, iI_bvn, iI_bvn, iI_bvn]
  apply BitVec.eq_of_toNat_eq
  rw [BitVec.toNat_or, BitVec.toNat_ofNat, BitVec.toNat_ofNat, BitVec.toNat_ofNat, Nat.mod_eq_of_lt hx, Nat.mod_eq_of_lt hy, Nat.mod_eq_of_lt (Nat.or_lt_two_pow (n := 32) hx hy)]
theorem iI_not (a : Int) : iI a ^^^ iI (-1) = iI (-a - 1) := by
  have e : iI (-a - 1) = -iI a + iI (-1) := by rw [iI_neg, iI_add, Int.sub_eq_add_neg]
  rw [e]
  generalize iI a = x
  apply Int32.toBitVec.inj
  have h1 : (iI (-1)).toBitVec = BitVec.allOnes 32 := by decide
  rw [Int32.toBitVec_xor, Int32.toBitVec_add, Int32.toBitVec_neg, h1, BitVec.xor_allOnes, BitVec.not_eq_neg_add, BitVec.sub_eq_add_neg]
  congr 1
/-- what is in x and not in y -/
def andn (x y : Nat) : Nat := x ^^^ (x &&& y)
theorem andn_bit (x y i : Nat) : (andn x y).testBit i = (x.testBit i && !y.testBit i) := by
  unfold andn
  rw [Nat.testBit_xor, Nat.testBit_and]
  cases x.testBit i <;> cases y.testBit i <;> rfl
theorem andn_lt {x y n : Nat} (h : x < 2 ^ n) : andn x y < 2 ^ n := Nat.xor_lt_two_pow h (Nat.lt_of_le_of_lt Nat.and_le_left h)
theorem iI_andn (x y : Nat) (hx : x < 4294967296) (hy : y < 4294967296) : iI (x : Int) &&& iI (-(y : Int) - 1) = iI ((andn x y : Nat) : Int) := by
  rw [← iI_not]
  apply Int32.toBitVec.inj
  rw [Int32.toBitVec_and, Int32.toBitVec_xor, iI_bvn, iI_bvn, iI_bvn]
  have h1 : (iI (-1)).toBitVec = BitVec.allOnes 32 := by decide
  rw [h1]
  apply BitVec.eq_of_getLsbD_eq
  intro i hi
  rw [BitVec.getLsbD_and, BitVec.getLsbD_xor, BitVec.getLsbD_ofNat, BitVec.getLsbD_ofNat, BitVec.getLsbD_ofNat, BitVec.getLsbD_allOnes, andn_bit]
  simp [hi]
theorem iI_and31 {b : Int} (h0 : 0 ≤ b) (h1 : b < 32) : (iI b &&& (31 : Int32)) = iI b := by
  obtain ⟨n, rfl⟩ := Int.eq_ofNat_of_zero_le h0
  have e : (31 : Int32) = iI ((31 : Nat) : Int) := rfl
  rw [e, iI_and _ _ (by omega) (by omega)]
  congr 2
  have : (31 : Nat) = 2 ^ 5 - 1 := rfl
  rw [this, Nat.and_two_pow_sub_one_eq_mod]
  omega
theorem iI_shl {a b : Int} (h0 : 0 ≤ b) (h1 : b < 32) : iI a <<< (iI b &&& (31 : Int32)) = iI (a * 2 ^ b.toNat) := by
  rw [iI_and31 h0 h1]
  obtain ⟨n, rfl⟩ := Int.eq_ofNat_of_zero_le h0
  apply Int32.toBitVec.inj
  rw [Int32.toBitVec_shiftLeft, iI_bv]
  have hn : ((iI ((n : Nat) : Int)).toBitVec.smod 32).toNat = n := by
    have hz : ∀ k, k < 32 → ((iI ((k : Nat) : Int)).toBitVec.smod 32).toNat = k := by decide
    exact hz n (by omega)
  rw [BitVec.shiftLeft_eq', hn, iI_bv, BitVec.shiftLeft_eq_mul_twoPow, BitVec.ofInt_mul]
  congr 1
  rw [show ((n : Nat) : Int).toNat = n from rfl, show (2 : Int) ^ n = ((2 ^ n : Nat) : Int) by simp, BitVec.ofInt_natCast]
  apply BitVec.eq_of_toNat_eq
  simp [BitVec.toNat_twoPow]
theorem iI_shr {a b : Int} (ha : inR a) (h0 : 0 ≤ b) (h1 : b < 32) : iI a >>> (iI b &&& (31 : Int32)) = iI (a / 2 ^ b.toNat) := by
  rw [iI_and31 h0 h1]
  obtain ⟨n, rfl⟩ := Int.eq_ofNat_of_zero_le h0
  have hz : ∀ k, k < 32 → ((iI ((k : Nat) : Int)).toBitVec.smod 32).toNat = k := by decide
  apply Int32.toInt.inj
  rw [pk_shr (iI a) (iI ((n : Nat) : Int)) n (hz n (by omega)), iI_toInt ha, Int.shiftRight_eq_div_pow]
  have hp : (0 : Int) < 2 ^ n := Int.pow_pos (by decide)
  have e : ((2 ^ n : Nat) : Int) = 2 ^ n := by simp
  rw [e, show ((n : Nat) : Int).toNat = n from rfl, iI_toInt]
  constructor
  · have : -2147483648 * 2 ^ n ≤ a := by
      have h2 : (1 : Int) ≤ 2 ^ n := hp
      have h3 : (2147483648 : Int) * 1 ≤ 2147483648 * 2 ^ n := Int.mul_le_mul_of_nonneg_left h2 (by decide)
      have h4 : (-2147483648 : Int) * 2 ^ n = -(2147483648 * 2 ^ n) := Int.neg_mul _ _
      omega
    exact Int.le_ediv_of_mul_le hp this
  · by_cases hs : 0 ≤ a
    · have := Int.ediv_le_self (2 ^ n) hs
      omega
    · have := Int.ediv_neg_of_neg_of_pos (by omega : a < 0) hp
      omega
end
section
/-! a component's memory: cells by their numbers, what they hold as whole numbers -/
abbrev jMem : Type := Nat → Int → Int
/-- the shape of a cell: an object (its class's place, of each field 0: an int, 1: a long, r + 2: a reference to cell r), or an array (of booleans?, its length) -/
abbrev jSh : Type := (Nat × List Nat) ⊕ (Bool × Nat)
def up2 (S : jMem) (k : Nat) (a v : Int) : jMem := fun k' a' => if k' = k ∧ a' = a then v else S k' a'
theorem up2_eq (S : jMem) (k : Nat) (a v : Int) : up2 S k a v k a = v := by simp [up2]
theorem up2_k (S : jMem) {k k' : Nat} (a v : Int) (h : k' ≠ k) : up2 S k a v k' = S k' := by funext a'; simp [up2, h]
theorem up2_a (S : jMem) (k : Nat) {a a' : Int} (v : Int) (h : a' ≠ a) : up2 S k a v k a' = S k a' := by simp [up2, h]
def jfv (ad : Nat → Nat) (c : Nat) (x : Int) : Value := match c with
  | 0 => .int (iI x)
  | 1 => .long (iL x)
  | r + 2 => .ref (ad r)
def jfs (ad : Nat → Nat) (f : Int → Int) : Nat → List Nat → List Value
  | _, [] => []
  | j, c :: cs => jfv ad c (f j) :: jfs ad f (j + 1) cs
theorem jfs_len (ad : Nat → Nat) (f : Int → Int) : ∀ (l : List Nat) (j : Nat), (jfs ad f j l).length = l.length
  | [], _ => rfl
  | _ :: l, j => congrArg (· + 1) (jfs_len ad f l (j + 1))
theorem jfs_get (ad : Nat → Nat) (f : Int → Int) : ∀ (l : List Nat) (j k c : Nat), l[k]? = some c → (jfs ad f j l)[k]? = some (jfv ad c (f ((j + k : Nat) : Int)))
  | [], _, _, _, h => by simp at h
  | b :: l, j, 0, c, h => by
    simp at h
    subst h
    rfl
  | b :: l, j, k + 1, c, h => by
    have h2 : l[k]? = some c := by simpa using h
    have := jfs_get ad f l (j + 1) k c h2
    rw [show j + 1 + k = j + (k + 1) by omega] at this
    simpa [jfs] using this
theorem jfs_congr (ad : Nat → Nat) (f g : Int → Int) : ∀ (l : List Nat) (j : Nat), (∀ i : Nat, j ≤ i → f i = g i) → jfs ad f j l = jfs ad g j l
  | [], _, _ => rfl
  | b :: l, j, h => by
    show jfv ad b (f j) :: jfs ad f (j + 1) l = jfv ad b (g j) :: jfs ad g (j + 1) l
    rw [h j (Nat.le_refl j), jfs_congr ad f g l (j + 1) (fun i hi => h i (by omega))]
theorem jfs_set (ad : Nat → Nat) (f g : Int → Int) : ∀ (l : List Nat) (j k c : Nat), l[k]? = some c → (∀ i : Nat, i ≠ j + k → g i = f i) → (jfs ad f j l).set k (jfv ad c (g ((j + k : Nat) : Int))) = jfs ad g j l
  | [], _, _, _, h, _ => by simp at h
  | b :: l, j, 0, c, h, hg => by
    simp at h
    subst h
    show jfv ad b (g j) :: jfs ad f (j + 1) l = jfv ad b (g j) :: jfs ad g (j + 1) l
    rw [jfs_congr ad f g l (j + 1) (fun i hi => (hg i (by omega)).symm)]
  | b :: l, j, k + 1, c, h, hg => by
    have h2 : l[k]? = some c := by simpa using h
    have := jfs_set ad f g l (j + 1) k c h2 (fun i hi => hg i (by omega))
    rw [show j + 1 + k = j + (k + 1) by omega] at this
    show jfv ad b (f j) :: (jfs ad f (j + 1) l).set k _ = jfv ad b (g j) :: jfs ad g (j + 1) l
    rw [this, hg j (by omega)]
def jE (cI cZ : ClassId) (ad : Nat → Nat) (f : Int → Int) (q : jSh) : va_E := match q with
  | .inl q => .inr (q.1, jfs ad f 0 q.2)
  | .inr q => .inl (if q.1 then cZ else cI, q.2, .inl (fun j => iI (f j)))
/-- what is fixed of a component: the launch, its shape, how many cells, classes' numbers and slots, the classes of int[] and boolean[], where the cells lie, where the class's table lies -/
abbrev jG : Type := Launch × (Nat → jSh) × Nat × (Nat → ClassId) × (Nat → Nat → Nat) × ClassId × ClassId × (Nat → Nat) × Nat
abbrev jl (G : jG) : Launch := G.1
abbrev jsh (G : jG) : Nat → jSh := G.2.1
abbrev jn (G : jG) : Nat := G.2.2.1
abbrev jD (G : jG) : va_G := (G.2.2.2.1, G.2.2.2.2.1)
abbrev jcI (G : jG) : ClassId := G.2.2.2.2.2.1
abbrev jcZ (G : jG) : ClassId := G.2.2.2.2.2.2.1
abbrev jad (G : jG) : Nat → Nat := G.2.2.2.2.2.2.2.1
abbrev jt (G : jG) : Nat := G.2.2.2.2.2.2.2.2
abbrev jtys (G : jG) : List (ClassId × FieldType) := [(jcI G, .int), (jcZ G, .boolean)]
def jws (G : jG) (S : jMem) : va_W := (List.range (jn G)).map (fun k => (jad G k, jE (jcI G) (jcZ G) (jad G) (S k) (jsh G k)))
def jA (G : jG) : Nat → Prop := fun q => ∃ k, k < jn G ∧ jad G k = q
theorem jws_get (G : jG) (S : jMem) {k : Nat} (h : k < jn G) : (jws G S)[k]? = some (jad G k, jE (jcI G) (jcZ G) (jad G) (S k) (jsh G k)) := by
  unfold jws
  rw [List.getElem?_map, List.getElem?_range h]
  rfl
theorem jws_set (G : jG) (S S' : jMem) {k : Nat} {e : va_E} (h : k < jn G) (he : e = jE (jcI G) (jcZ G) (jad G) (S' k) (jsh G k)) (ho : ∀ i, i ≠ k → S' i = S i) : (jws G S).set k (jad G k, e) = jws G S' := by
  apply List.ext_getElem?
  intro i
  by_cases hi : i = k
  · subst hi
    have hl : i < (jws G S).length := by unfold jws; simpa using h
    rw [List.getElem?_set_self hl, jws_get G S' h, he]
  · rw [List.getElem?_set_ne (Ne.symm hi)]
    unfold jws
    rw [List.getElem?_map, List.getElem?_map]
    cases hr : (List.range (jn G))[i]? with
    | none => rfl
    | some j =>
      have hj : j = i := by
        have := List.getElem?_eq_some_iff.mp hr
        obtain ⟨h1, h2⟩ := this
        simpa using h2.symm
      subst hj
      show some (jad G j, jE (jcI G) (jcZ G) (jad G) (S j) (jsh G j)) = some (jad G j, jE (jcI G) (jcZ G) (jad G) (S' j) (jsh G j))
      rw [ho j hi]
def jinj (G : jG) : Prop := ∀ i j, i < jn G → j < jn G → jad G i = jad G j → i = j
theorem jws_lt (G : jG) (S : jMem) {k : Nat} {q : Nat × va_E} (h : (jws G S)[k]? = some q) : k < jn G ∧ q.1 = jad G k := by
  have hl : k < (jws G S).length := (List.getElem?_eq_some_iff.mp h).1
  have hk : k < jn G := by unfold jws at hl; simpa using hl
  rw [jws_get G S hk] at h
  cases h
  exact ⟨hk, rfl⟩
theorem jD_of (G : jG) (S : jMem) (h : jinj G) : va_D (jA G) (jws G S) := by
  refine ⟨fun i j x y hi hj hxy => ?_, fun k q hk => ?_⟩
  · obtain ⟨a1, a2⟩ := jws_lt G S hi
    obtain ⟨b1, b2⟩ := jws_lt G S hj
    exact h i j a1 b1 (by rw [← a2, ← b2, hxy])
  · obtain ⟨a1, a2⟩ := jws_lt G S hk
    exact ⟨k, a1, a2.symm⟩
/-- the class's table of sides -/
def sd (a : Int) : Int := ([0, 1, 2, 0, 2, 1, 1, 0, 2, 1, 2, 0, 2, 0, 1, 2, 1, 0] : List Int).getD a.toNat 0
def jnest : List Cond := [.methodLinkNest "PlaceRectangles$Cuts" 28 yX5_lowest "PlaceRectangles", .methodLinkNest "PlaceRectangles$Search" 124 yX5_lowest "PlaceRectangles"]
def jst (G : jG) (A : Nat → Prop) (U : State) (H : Heap) : Prop := va_Z "PlaceRectangles$Stock" "SIDES_OF_TURNS" "[I" (.ref (jt G)) A U H ∧ va_T .int (jt G) 18 (fun j => .int (iI (sd j))) A U H ∧ ∀ w ∈ jnest, va_Nw w U
theorem jst.moved {G : jG} {A : Nat → Prop} {u U : State} {H : Heap} (hW : u.WarmedH U.vm) (h : jst G A u H) : jst G A U H := by
  refine ⟨h.1.moved hW.alike, h.2.1.moved hW.alike, fun w hw => ?_⟩
  have h0 := h.2.2 w hw
  simp only [jnest, List.mem_cons, List.not_mem_nil, or_false] at hw
  rcases hw with rfl | rfl
  · exact va_Nw.warmM hW h0
  · exact va_Nw.warmM hW h0
theorem jst.kept {G : jG} {A : Nat → Prop} {U : State} {H H1 : Heap} (h : jst G A U H) (hq : ∀ a : Nat, a < H.size → ¬ A a → H1[a]? = H[a]?) : jst G A U H1 := ⟨h.1.kept hq, h.2.1.kept hq, h.2.2⟩
theorem jst.call {G : jG} {A : Nat → Prop} {U : State} {H : Heap} (g : JFrame) (mk : MethodId) (a : Array Value) (h : jst G A U H) : jst G A (U.calling g mk a) H := by
  refine ⟨h.1.moved (Vm.Alike.refl U.vm), h.2.1.moved (Vm.Alike.refl U.vm), fun w hw => ?_⟩
  have h0 := h.2.2 w hw
  simp only [jnest, List.mem_cons, List.not_mem_nil, or_false] at hw
  rcases hw with rfl | rfl
  · exact va_Nw.same (u := U) rfl rfl h0
  · exact va_Nw.same (u := U) rfl rfl h0
/-- the component's world -/
def jW (G : jG) (S : jMem) (U : State) : Prop := va_P (jD G) vwCl (jws G S) U.heap ∧ va_K (jD G) vwCl (jtys G) U ∧ jst G (jA G) U U.heap ∧ jinj G
theorem jW.blind {G : jG} {S : jMem} {av : List Value} : FrameBlind (va_Pc av (jW G S)) := fun a U g mk q => by
  obtain ⟨q0, qP, qK, qT, qI⟩ := q
  exact ⟨q0, qP, va_K.moved (u := U) (U := U.calling g mk a) (Vm.Alike.refl U.vm) qK, jst.call g mk a qT, qI⟩
def jQ (G : jG) (post : Option Value → jMem → Prop) : Array Value → State → Outcome → State → Prop := fun _ st oc t => (∃ (r : Option Value) (S' : jMem), oc = .returned r ∧ post r S' ∧ va_P (jD G) vwCl (jws G S') t.heap) ∧ va_F (jA G) st t
/-- the words that a method has: the tables that go along -/
def lw_good : List Cond := lw_tbl.filter goodWord
theorem lw_good_in {w : Cond} (h : w ∈ lw_good) : w ∈ lw_tbl := (List.mem_filter.mp h).1
theorem lw_good_of {w : Cond} (h : w ∈ lw_tbl) (h2 : goodWord w = true) : w ∈ lw_good := List.mem_filter.mpr ⟨h, h2⟩
theorem lw_good_good {x : Cond} : GoodIn (x :: lw_good) lw_good := fun w hw => ⟨List.mem_cons_of_mem _ hw, good_of_word (List.mem_filter.mp hw).2⟩
/-- a method's contract over a component -/
def jM (G : jG) (y : MethodName) (cc : ByteArray) (nL : Nat) (ret : Option FieldType) (fr lo : Nat) (av : List Value) (S : jMem) (post : Option Value → jMem → Prop) : Prop :=
  Met (jl G) y (.code y cc nL ret :: lw_good) { frames := fr, cells := 0, slots := 0, locals := lo } (va_Pc av (jW G S)) (jQ G post) 0 0 (jA G)
/-- an activation: the machine, who is below, which method, the room's rest, the goal -/
abbrev jEnv : Type := Program × Env × Room × State × MethodId × Array Value × List Frame × Method × Code × Nat × Nat × (State → Prop)
/-- the machine, at pc with these locals and this stack, the component holding S, comes to the goal -/
def J (E : jEnv) (G : jG) (pc : Nat) (lv : List (Nat × Value)) (st : List Value) (S : jMem) : Prop :=
  ∀ (H : Heap) (locs : List Loc) (ls : Array Slot), lv_has ls E.2.2.2.2.2.2.2.2.1.maxLocals lv → va_P (jD G) vwCl (jws G S) H → va_S (jA G) E.2.2.2.1.heap H locs →
    W E.1 (jl G) E.2.1 E.2.2.1 E.2.2.2.1 E.2.2.2.2.1 E.2.2.2.2.2.1 E.2.2.2.2.2.2.1 E.2.2.2.2.2.2.2.1 E.2.2.2.2.2.2.2.2.1 H locs E.2.2.2.2.2.2.2.2.2.1 E.2.2.2.2.2.2.2.2.2.2.1 E.2.2.2.2.2.2.2.2.2.2.2 (F0 E.2.2.2.2.1 pc ls st)
def jX (E : jEnv) (G : jG) (cc : ByteArray) (nL : Nat) (own : String) (fr lo : Nat) : Prop :=
  E.1.tables.exec = Jvm.exec ∧ E.2.2.2.2.2.2.2.2.1.code = cc ∧ E.2.2.2.2.2.2.2.2.1.maxLocals = nL ∧ E.2.2.2.1.vm.findClass own = some E.2.2.2.2.1.cls ∧ (∀ w ∈ lw_good, w.before E.2.2.2.2.2.1 E.2.2.2.1 = true) ∧
  va_K (jD G) vwCl (jtys G) E.2.2.2.1 ∧ jst G (jA G) E.2.2.2.1 E.2.2.2.1.heap ∧ jinj G ∧ fr ≤ E.2.2.1.frames ∧ lo ≤ E.2.2.1.locals ∧ E.2.2.2.2.2.2.2.2.2.1 ≤ E.2.2.1.cells ∧ E.2.2.2.2.2.2.2.2.2.2.1 ≤ E.2.2.1.slots
/-- the goal is the contract's end -/
def jR (E : jEnv) (G : jG) (ret : Option FieldType) (post : Option Value → jMem → Prop) : Prop :=
  E.2.2.2.2.2.2.2.2.2.2.2 = MQ E.2.2.2.2.2.2.1 (jQ G post) E.2.2.2.2.2.1 E.2.2.2.1 E.2.2.2.2.2.2.2.2.2.1 E.2.2.2.2.2.2.2.2.2.2.1 (jA G) ∧ E.2.2.2.2.2.2.2.1.sig.returnType = ret ∧ E.2.2.2.2.2.2.2.1.locks = false
theorem jM.of {G : jG} {y : MethodName} {cc : ByteArray} {nL : Nat} {ret : Option FieldType} {fr lo : Nat} {av : List Value} {S : jMem} {post : Option Value → jMem → Prop} (hy : plainName y.cls = true) (hlen : (lg_sl av).length ≤ nL)
    (body : ∀ E : jEnv, jX E G cc nL y.cls fr lo → jR E G ret post → J E G 0 (lv_args 0 av) [] S) : jM G y cc nL ret fr lo av S post := by
  refine Met.ofW (cc := cc) (maxL := nL) (ret := ret) hy rfl ?_
  intro p e s m args below meth c s₁ B hml hv
  obtain ⟨rfl, hP, hK, hT, hI⟩ := hv
  have hts := atoms_spec (ws := .code y cc nL ret :: lw_good) B.pre
  have hl := lv_entry av (n := nL) hlen
  rw [lg_entry_eq]
  exact body (p, e, _, s, m, av.toArray, below, meth, c, 0, 0, _) ⟨B.exec, B.bytes, hml, findClass_of_methodNamed B.named, fun w hw => hts w (List.mem_cons_of_mem _ hw), hK, hT, hI, Nat.le_refl _, Nat.le_refl _, Nat.zero_le _, Nat.zero_le _⟩ ⟨rfl, B.returns, B.notSynchronized⟩ s.heap [] _ (by show lv_has _ c.maxLocals _; rw [hml]; exact hl) hP va_S.rf
section JR
variable {E : jEnv} {G : jG} {cc : ByteArray} {nL : Nat} {own : String} {fr lo : Nat} {pc : Nat} {lv lv' : List (Nat × Value)} {st : List Value} {S : jMem} {ret : Option FieldType} {post : Option Value → jMem → Prop}
theorem J_iconst (C : jX E G cc nL own fr lo) {n : Int} (hd : decode cc pc = .ok (.iconst n, 1)) (k : J E G (pc + 1) lv (.int (iI n) :: st) S) : J E G pc lv st S := fun H locs ls hl hP hS => lv_iconst C.1 C.2.1 hd rfl (k H locs ls hl hP hS)
theorem J_bipush (C : jX E G cc nL own fr lo) {n : Int} (hd : decode cc pc = .ok (.bipush n, 2)) (hn : (Int8.ofInt n).toInt32 = iI n) (k : J E G (pc + 2) lv (.int (iI n) :: st) S) : J E G pc lv st S := fun H locs ls hl hP hS => lv_bipush C.1 C.2.1 hd hn (k H locs ls hl hP hS)
theorem J_sipush (C : jX E G cc nL own fr lo) {n : Int} (hd : decode cc pc = .ok (.sipush n, 3)) (hn : (Int16.ofInt n).toInt32 = iI n) (k : J E G (pc + 3) lv (.int (iI n) :: st) S) : J E G pc lv st S := fun H locs ls hl hP hS => lv_sipush C.1 C.2.1 hd hn (k H locs ls hl hP hS)
theorem J_ldc (C : jX E G cc nL own fr lo) {n : Int} {i : Nat} (hw : Cond.constant own i (iI n) ∈ lw_good) (hd : decode cc pc = .ok (.ldc i, 2)) (k : J E G (pc + 2) lv (.int (iI n) :: st) S) : J E G pc lv st S := fun H locs ls hl hP hS => lv_ldc C.1 C.2.1 C.2.2.2.1 (C.2.2.2.2.1 _ hw) hd (k H locs ls hl hP hS)
theorem J_ldc2 (C : jX E G cc nL own fr lo) {n : Int} {i : Nat} (hw : Cond.constantLong own i (iL n) ∈ lw_good) (hd : decode cc pc = .ok (.ldc2_w i, 3)) (k : J E G (pc + 3) lv (.long (iL n) :: st) S) : J E G pc lv st S := fun H locs ls hl hP hS => lv_ldc2 C.1 C.2.1 C.2.2.2.1 (C.2.2.2.2.1 _ hw) hd (k H locs ls hl hP hS)
theorem J_lconst (C : jX E G cc nL own fr lo) {n : Fin 2} (z : Int) (hd : decode cc pc = .ok (.lconst n, 1)) (hz : Int64.ofNat (n : Nat) = iL z) (k : J E G (pc + 1) lv (.long (iL z) :: st) S) : J E G pc lv st S := fun H locs ls hl hP hS => lv_lconst C.1 C.2.1 hd hz (k H locs ls hl hP hS)
theorem J_iload (C : jX E G cc nL own fr lo) {i : Nat} {x : Int32} (q : Nat) (hd : decode cc pc = .ok (.iload i, 2)) (hq : lv[q]? = some (i, .int x)) (k : J E G (pc + 2) lv (.int x :: st) S) : J E G pc lv st S := fun H locs ls hl hP hS => lv_iload C.1 C.2.1 hd (lv_at hl q hq) (k H locs ls hl hP hS)
theorem J_iload_n (C : jX E G cc nL own fr lo) {i : Fin 4} {x : Int32} (q : Nat) (hd : decode cc pc = .ok (.iload_n i, 1)) (hq : lv[q]? = some ((i : Nat), .int x)) (k : J E G (pc + 1) lv (.int x :: st) S) : J E G pc lv st S := fun H locs ls hl hP hS => lv_iload_n C.1 C.2.1 hd rfl (lv_at hl q hq) (k H locs ls hl hP hS)
theorem J_lload (C : jX E G cc nL own fr lo) {i : Nat} {x : Int64} (q : Nat) (hd : decode cc pc = .ok (.lload i, 2)) (hq : lv[q]? = some (i, .long x)) (k : J E G (pc + 2) lv (.long x :: st) S) : J E G pc lv st S := fun H locs ls hl hP hS => lv_lload C.1 C.2.1 hd (lv_at hl q hq) (k H locs ls hl hP hS)
theorem J_aload (C : jX E G cc nL own fr lo) {i : Nat} {x : Nat} (q : Nat) (hd : decode cc pc = .ok (.aload i, 2)) (hq : lv[q]? = some (i, .ref x)) (k : J E G (pc + 2) lv (.ref x :: st) S) : J E G pc lv st S := fun H locs ls hl hP hS => lv_aload C.1 C.2.1 hd (lv_at hl q hq) (k H locs ls hl hP hS)
theorem J_aload_n (C : jX E G cc nL own fr lo) {i : Fin 4} {x : Nat} (q : Nat) (hd : decode cc pc = .ok (.aload_n i, 1)) (hq : lv[q]? = some ((i : Nat), .ref x)) (k : J E G (pc + 1) lv (.ref x :: st) S) : J E G pc lv st S := fun H locs ls hl hP hS => lv_aload_n C.1 C.2.1 hd rfl (lv_at hl q hq) (k H locs ls hl hP hS)
theorem J_istore (C : jX E G cc nL own fr lo) {i : Nat} {x : Int32} (hd : decode cc pc = .ok (.istore i, 2)) (hn : i < nL) (hl' : (i, Value.int x) :: lv.filter (fun q => !(q.1 == i) && !(q.1 + 1 == i && q.2.category == 2)) = lv') (k : J E G (pc + 2) lv' st S) : J E G pc lv (.int x :: st) S := fun H locs ls hl hP hS => lv_istore C.1 C.2.1 hd hl (by rw [C.2.2.1]; exact hn) hl' (fun ls' hl'' => k H locs ls' hl'' hP hS)
theorem J_istore_n (C : jX E G cc nL own fr lo) {i : Fin 4} {x : Int32} (hd : decode cc pc = .ok (.istore_n i, 1)) (hn : (i : Nat) < nL) (hl' : ((i : Nat), Value.int x) :: lv.filter (fun q => !(q.1 == (i : Nat)) && !(q.1 + 1 == (i : Nat) && q.2.category == 2)) = lv') (k : J E G (pc + 1) lv' st S) : J E G pc lv (.int x :: st) S := fun H locs ls hl hP hS => lv_istore_n C.1 C.2.1 hd rfl hl (by rw [C.2.2.1]; exact hn) hl' (fun ls' hl'' => k H locs ls' hl'' hP hS)
theorem J_lstore (C : jX E G cc nL own fr lo) {i : Nat} {x : Int64} (hd : decode cc pc = .ok (.lstore i, 2)) (hn : i + 1 < nL) (hl' : (i, Value.long x) :: lv.filter (fun q => !(q.1 == i) && (!(q.1 == i + 1) && !(q.1 + 1 == i && q.2.category == 2))) = lv') (k : J E G (pc + 2) lv' st S) : J E G pc lv (.long x :: st) S := fun H locs ls hl hP hS => lv_lstore C.1 C.2.1 hd hl (by rw [C.2.2.1]; exact hn) hl' (fun ls' hl'' => k H locs ls' hl'' hP hS)
theorem J_iinc (C : jX E G cc nL own fr lo) {i : Nat} {n a : Int} (q : Nat) (hd : decode cc pc = .ok (.iinc i n, 3)) (hq : lv[q]? = some (i, .int (iI a))) (hn : i < nL) (hl' : (i, Value.int (iI (a + n))) :: lv.filter (fun q => !(q.1 == i) && !(q.1 + 1 == i && q.2.category == 2)) = lv') (k : J E G (pc + 3) lv' st S) : J E G pc lv st S := fun H locs ls hl hP hS => lv_iinc (v := iI (a + n)) C.1 C.2.1 hd hl hq (iI_add a n) (by rw [C.2.2.1]; exact hn) hl' (fun ls' hl'' => k H locs ls' hl'' hP hS)
theorem J_iadd (C : jX E G cc nL own fr lo) {a b : Int} (hd : decode cc pc = .ok (.iadd, 1)) (k : J E G (pc + 1) lv (.int (iI (a + b)) :: st) S) : J E G pc lv (.int (iI b) :: .int (iI a) :: st) S := fun H locs ls hl hP hS => lv_iadd C.1 C.2.1 hd (by rw [iI_add]; exact k H locs ls hl hP hS)
theorem J_isub (C : jX E G cc nL own fr lo) {a b : Int} (hd : decode cc pc = .ok (.isub, 1)) (k : J E G (pc + 1) lv (.int (iI (a - b)) :: st) S) : J E G pc lv (.int (iI b) :: .int (iI a) :: st) S := fun H locs ls hl hP hS => lv_isub C.1 C.2.1 hd (by rw [iI_sub]; exact k H locs ls hl hP hS)
theorem J_imul (C : jX E G cc nL own fr lo) {a b : Int} (hd : decode cc pc = .ok (.imul, 1)) (k : J E G (pc + 1) lv (.int (iI (a * b)) :: st) S) : J E G pc lv (.int (iI b) :: .int (iI a) :: st) S := fun H locs ls hl hP hS => lv_imul C.1 C.2.1 hd (by rw [iI_mul]; exact k H locs ls hl hP hS)
theorem J_ineg (C : jX E G cc nL own fr lo) {a : Int} (hd : decode cc pc = .ok (.ineg, 1)) (k : J E G (pc + 1) lv (.int (iI (-a)) :: st) S) : J E G pc lv (.int (iI a) :: st) S := fun H locs ls hl hP hS => lv_ineg C.1 C.2.1 hd (by rw [iI_neg]; exact k H locs ls hl hP hS)
theorem J_idiv (C : jX E G cc nL own fr lo) {a b : Int} (hd : decode cc pc = .ok (.idiv, 1)) (ha : 0 ≤ a) (ha2 : a ≤ 2147483647) (hb : 0 < b) (hb2 : b ≤ 2147483647) (k : J E G (pc + 1) lv (.int (iI (a / b)) :: st) S) : J E G pc lv (.int (iI b) :: .int (iI a) :: st) S := fun H locs ls hl hP hS => lv_idiv C.1 C.2.1 hd (iI_nz (by omega) (by omega)) (by rw [iI_div ha ha2 hb hb2]; exact k H locs ls hl hP hS)
theorem J_irem (C : jX E G cc nL own fr lo) {a b : Int} (hd : decode cc pc = .ok (.irem, 1)) (ha : 0 ≤ a) (ha2 : a ≤ 2147483647) (hb : 0 < b) (hb2 : b ≤ 2147483647) (k : J E G (pc + 1) lv (.int (iI (a % b)) :: st) S) : J E G pc lv (.int (iI b) :: .int (iI a) :: st) S := fun H locs ls hl hP hS => lv_irem C.1 C.2.1 hd (iI_nz (by omega) (by omega)) (by rw [iI_rem ha ha2 hb hb2]; exact k H locs ls hl hP hS)
theorem J_ishl (C : jX E G cc nL own fr lo) {a b : Int} (hd : decode cc pc = .ok (.ishl, 1)) (h0 : 0 ≤ b) (h1 : b < 32) (k : J E G (pc + 1) lv (.int (iI (a * 2 ^ b.toNat)) :: st) S) : J E G pc lv (.int (iI b) :: .int (iI a) :: st) S := fun H locs ls hl hP hS => lv_ishl C.1 C.2.1 hd (by rw [iI_shl h0 h1]; exact k H locs ls hl hP hS)
theorem J_ishr (C : jX E G cc nL own fr lo) {a b : Int} (hd : decode cc pc = .ok (.ishr, 1)) (ha : inR a) (h0 : 0 ≤ b) (h1 : b < 32) (k : J E G (pc + 1) lv (.int (iI (a / 2 ^ b.toNat)) :: st) S) : J E G pc lv (.int (iI b) :: .int (iI a) :: st) S := fun H locs ls hl hP hS => lv_ishr C.1 C.2.1 hd (by rw [iI_shr ha h0 h1]; exact k H locs ls hl hP hS)
/-- any of iand, ior, ixor: the answer's number is told -/
theorem J_iand (C : jX E G cc nL own fr lo) {x y : Int32} (z : Int) (hd : decode cc pc = .ok (.iand, 1)) (hz : x &&& y = iI z) (k : J E G (pc + 1) lv (.int (iI z) :: st) S) : J E G pc lv (.int y :: .int x :: st) S := fun H locs ls hl hP hS => lv_iand C.1 C.2.1 hd (by rw [hz]; exact k H locs ls hl hP hS)
theorem J_ior (C : jX E G cc nL own fr lo) {x y : Int32} (z : Int) (hd : decode cc pc = .ok (.ior, 1)) (hz : x ||| y = iI z) (k : J E G (pc + 1) lv (.int (iI z) :: st) S) : J E G pc lv (.int y :: .int x :: st) S := fun H locs ls hl hP hS => lv_ior C.1 C.2.1 hd (by rw [hz]; exact k H locs ls hl hP hS)
theorem J_ixor (C : jX E G cc nL own fr lo) {x y : Int32} (z : Int) (hd : decode cc pc = .ok (.ixor, 1)) (hz : x ^^^ y = iI z) (k : J E G (pc + 1) lv (.int (iI z) :: st) S) : J E G pc lv (.int y :: .int x :: st) S := fun H locs ls hl hP hS => lv_ixor C.1 C.2.1 hd (by rw [hz]; exact k H locs ls hl hP hS)
theorem J_iushr (C : jX E G cc nL own fr lo) {x y : Int32} (z : Int32) (hd : decode cc pc = .ok (.iushr, 1)) (hz : (x.toUInt32 >>> (y.toUInt32 &&& Int32.toUInt32 31)).toInt32 = z) (k : J E G (pc + 1) lv (.int z :: st) S) : J E G pc lv (.int y :: .int x :: st) S := fun H locs ls hl hP hS => lv_iushr C.1 C.2.1 hd hz (k H locs ls hl hP hS)
theorem J_i2l (C : jX E G cc nL own fr lo) {a : Int} (hd : decode cc pc = .ok (.i2l, 1)) (ha : inR a) (k : J E G (pc + 1) lv (.long (iL a) :: st) S) : J E G pc lv (.int (iI a) :: st) S := fun H locs ls hl hP hS => lv_i2l C.1 C.2.1 hd (iI_l ha) (k H locs ls hl hP hS)
theorem J_l2i (C : jX E G cc nL own fr lo) {a : Int} (hd : decode cc pc = .ok (.l2i, 1)) (k : J E G (pc + 1) lv (.int (iI a) :: st) S) : J E G pc lv (.long (iL a) :: st) S := fun H locs ls hl hP hS => lv_l2i C.1 C.2.1 hd (iL_i a) (k H locs ls hl hP hS)
theorem J_ladd (C : jX E G cc nL own fr lo) {a b : Int} (hd : decode cc pc = .ok (.ladd, 1)) (k : J E G (pc + 1) lv (.long (iL (a + b)) :: st) S) : J E G pc lv (.long (iL b) :: .long (iL a) :: st) S := fun H locs ls hl hP hS => lv_ladd C.1 C.2.1 hd (by rw [iL_add]; exact k H locs ls hl hP hS)
theorem J_lmul (C : jX E G cc nL own fr lo) {a b : Int} (hd : decode cc pc = .ok (.lmul, 1)) (k : J E G (pc + 1) lv (.long (iL (a * b)) :: st) S) : J E G pc lv (.long (iL b) :: .long (iL a) :: st) S := fun H locs ls hl hP hS => lv_lmul C.1 C.2.1 hd (by rw [iL_mul]; exact k H locs ls hl hP hS)
theorem J_lcmp (C : jX E G cc nL own fr lo) {a b : Int} (hd : decode cc pc = .ok (.lcmp, 1)) (ha : inL a) (hb : inL b) (k : J E G (pc + 1) lv (.int (iI (if b < a then 1 else if a = b then 0 else -1)) :: st) S) : J E G pc lv (.long (iL b) :: .long (iL a) :: st) S := fun H locs ls hl hP hS => W.lcmp C.1 C.2.1 hd (by rw [lg_cmp_i ha hb]; exact k H locs ls hl hP hS)
theorem J_dup (C : jX E G cc nL own fr lo) {v : Value} (hd : decode cc pc = .ok (.dup, 1)) (hv : v.category = 1) (k : J E G (pc + 1) lv (v :: v :: st) S) : J E G pc lv (v :: st) S := fun H locs ls hl hP hS => lv_dup C.1 C.2.1 hd hv (k H locs ls hl hP hS)
theorem J_dup2 (C : jX E G cc nL own fr lo) {v w : Value} (hd : decode cc pc = .ok (.dup2, 1)) (hv : v.category = 1) (hw : w.category = 1) (k : J E G (pc + 1) lv (v :: w :: v :: w :: st) S) : J E G pc lv (v :: w :: st) S := fun H locs ls hl hP hS => lv_dup2_11 C.1 C.2.1 hd hv hw (k H locs ls hl hP hS)
theorem J_dup_x1 (C : jX E G cc nL own fr lo) {v w : Value} (hd : decode cc pc = .ok (.dup_x1, 1)) (hv : v.category = 1) (hw : w.category = 1) (k : J E G (pc + 1) lv (v :: w :: v :: st) S) : J E G pc lv (v :: w :: st) S := fun H locs ls hl hP hS => lv_dup_x1 C.1 C.2.1 hd hv hw (k H locs ls hl hP hS)
theorem J_dup_x2 (C : jX E G cc nL own fr lo) {v w u : Value} (hd : decode cc pc = .ok (.dup_x2, 1)) (hv : v.category = 1) (hw : w.category = 1) (hu : u.category = 1) (k : J E G (pc + 1) lv (v :: w :: u :: v :: st) S) : J E G pc lv (v :: w :: u :: st) S := fun H locs ls hl hP hS => lv_dup_x2 C.1 C.2.1 hd hv hw hu (k H locs ls hl hP hS)
theorem J_goto (C : jX E G cc nL own fr lo) {off : Int} (tgt : Nat) (hd : decode cc pc = .ok (.goto off, 3)) (ht : (pc : Int) + off = (tgt : Int)) (k : J E G tgt lv st S) : J E G pc lv st S := fun H locs ls hl hP hS => lv_goto C.1 C.2.1 hd ht (k H locs ls hl hP hS)
theorem h00 : inR 0 := by omega
theorem J_if_eq (C : jX E G cc nL own fr lo) {a off : Int} (tgt : Nat) (hd : decode cc pc = .ok (.ifCond .eq off, 3)) (ht : (pc : Int) + off = (tgt : Int)) (ha : inR a) (kt : a = 0 → J E G tgt lv st S) (kf : ¬ a = 0 → J E G (pc + 3) lv st S) : J E G pc lv (.int (iI a) :: st) S := fun H locs ls hl hP hS => lv_if_eq C.1 C.2.1 hd ht (fun h => kt (by rw [← iI_zero, iI_inj ha h00] at h; exact h) H locs ls hl hP hS) (fun h => kf (by rw [← iI_zero, iI_inj ha h00] at h; exact h) H locs ls hl hP hS)
theorem J_if_ne (C : jX E G cc nL own fr lo) {a off : Int} (tgt : Nat) (hd : decode cc pc = .ok (.ifCond .ne off, 3)) (ht : (pc : Int) + off = (tgt : Int)) (ha : inR a) (kt : ¬ a = 0 → J E G tgt lv st S) (kf : a = 0 → J E G (pc + 3) lv st S) : J E G pc lv (.int (iI a) :: st) S := fun H locs ls hl hP hS => lv_if_ne C.1 C.2.1 hd ht (fun h => kt (by rw [← iI_zero, iI_inj ha h00] at h; exact h) H locs ls hl hP hS) (fun h => kf (by rw [← iI_zero, iI_inj ha h00] at h; exact h) H locs ls hl hP hS)
theorem J_if_lt (C : jX E G cc nL own fr lo) {a off : Int} (tgt : Nat) (hd : decode cc pc = .ok (.ifCond .lt off, 3)) (ht : (pc : Int) + off = (tgt : Int)) (ha : inR a) (kt : a < 0 → J E G tgt lv st S) (kf : ¬ a < 0 → J E G (pc + 3) lv st S) : J E G pc lv (.int (iI a) :: st) S := fun H locs ls hl hP hS => lv_if_lt C.1 C.2.1 hd ht (fun h => kt (by rw [← iI_zero, iI_lt ha h00] at h; exact h) H locs ls hl hP hS) (fun h => kf (by rw [← iI_zero, iI_lt ha h00] at h; exact h) H locs ls hl hP hS)
theorem J_if_ge (C : jX E G cc nL own fr lo) {a off : Int} (tgt : Nat) (hd : decode cc pc = .ok (.ifCond .ge off, 3)) (ht : (pc : Int) + off = (tgt : Int)) (ha : inR a) (kt : 0 ≤ a → J E G tgt lv st S) (kf : ¬ 0 ≤ a → J E G (pc + 3) lv st S) : J E G pc lv (.int (iI a) :: st) S := fun H locs ls hl hP hS => lv_if_ge C.1 C.2.1 hd ht (fun h => kt (by rw [← iI_zero, iI_le h00 ha] at h; exact h) H locs ls hl hP hS) (fun h => kf (by rw [← iI_zero, iI_le h00 ha] at h; exact h) H locs ls hl hP hS)
theorem J_if_gt (C : jX E G cc nL own fr lo) {a off : Int} (tgt : Nat) (hd : decode cc pc = .ok (.ifCond .gt off, 3)) (ht : (pc : Int) + off = (tgt : Int)) (ha : inR a) (kt : 0 < a → J E G tgt lv st S) (kf : ¬ 0 < a → J E G (pc + 3) lv st S) : J E G pc lv (.int (iI a) :: st) S := fun H locs ls hl hP hS => lv_if_gt C.1 C.2.1 hd ht (fun h => kt (by rw [← iI_zero, iI_lt h00 ha] at h; exact h) H locs ls hl hP hS) (fun h => kf (by rw [← iI_zero, iI_lt h00 ha] at h; exact h) H locs ls hl hP hS)
theorem J_if_le (C : jX E G cc nL own fr lo) {a off : Int} (tgt : Nat) (hd : decode cc pc = .ok (.ifCond .le off, 3)) (ht : (pc : Int) + off = (tgt : Int)) (ha : inR a) (kt : a ≤ 0 → J E G tgt lv st S) (kf : ¬ a ≤ 0 → J E G (pc + 3) lv st S) : J E G pc lv (.int (iI a) :: st) S := fun H locs ls hl hP hS => lv_if_le C.1 C.2.1 hd ht (fun h => kt (by rw [← iI_zero, iI_le ha h00] at h; exact h) H locs ls hl hP hS) (fun h => kf (by rw [← iI_zero, iI_le ha h00] at h; exact h) H locs ls hl hP hS)
theorem J_icmp_eq (C : jX E G cc nL own fr lo) {a b off : Int} (tgt : Nat) (hd : decode cc pc = .ok (.if_icmp .eq off, 3)) (ht : (pc : Int) + off = (tgt : Int)) (ha : inR a) (hb : inR b) (kt : a = b → J E G tgt lv st S) (kf : ¬ a = b → J E G (pc + 3) lv st S) : J E G pc lv (.int (iI b) :: .int (iI a) :: st) S := fun H locs ls hl hP hS => lv_icmp_eq C.1 C.2.1 hd ht (fun h => kt (by rw [iI_inj ha hb] at h; exact h) H locs ls hl hP hS) (fun h => kf (by rw [iI_inj ha hb] at h; exact h) H locs ls hl hP hS)
theorem J_icmp_ne (C : jX E G cc nL own fr lo) {a b off : Int} (tgt : Nat) (hd : decode cc pc = .ok (.if_icmp .ne off, 3)) (ht : (pc : Int) + off = (tgt : Int)) (ha : inR a) (hb : inR b) (kt : ¬ a = b → J E G tgt lv st S) (kf : a = b → J E G (pc + 3) lv st S) : J E G pc lv (.int (iI b) :: .int (iI a) :: st) S := fun H locs ls hl hP hS => lv_icmp_ne C.1 C.2.1 hd ht (fun h => kt (by rw [iI_inj ha hb] at h; exact h) H locs ls hl hP hS) (fun h => kf (by rw [iI_inj ha hb] at h; exact h) H locs ls hl hP hS)
theorem J_icmp_lt (C : jX E G cc nL own fr lo) {a b off : Int} (tgt : Nat) (hd : decode cc pc = .ok (.if_icmp .lt off, 3)) (ht : (pc : Int) + off = (tgt : Int)) (ha : inR a) (hb : inR b) (kt : a < b → J E G tgt lv st S) (kf : ¬ a < b → J E G (pc + 3) lv st S) : J E G pc lv (.int (iI b) :: .int (iI a) :: st) S := fun H locs ls hl hP hS => lv_icmp_lt C.1 C.2.1 hd ht (fun h => kt (by rw [iI_lt ha hb] at h; exact h) H locs ls hl hP hS) (fun h => kf (by rw [iI_lt ha hb] at h; exact h) H locs ls hl hP hS)
theorem J_icmp_ge (C : jX E G cc nL own fr lo) {a b off : Int} (tgt : Nat) (hd : decode cc pc = .ok (.if_icmp .ge off, 3)) (ht : (pc : Int) + off = (tgt : Int)) (ha : inR a) (hb : inR b) (kt : b ≤ a → J E G tgt lv st S) (kf : ¬ b ≤ a → J E G (pc + 3) lv st S) : J E G pc lv (.int (iI b) :: .int (iI a) :: st) S := fun H locs ls hl hP hS => lv_icmp_ge C.1 C.2.1 hd ht (fun h => kt (by rw [iI_le hb ha] at h; exact h) H locs ls hl hP hS) (fun h => kf (by rw [iI_le hb ha] at h; exact h) H locs ls hl hP hS)
theorem J_icmp_gt (C : jX E G cc nL own fr lo) {a b off : Int} (tgt : Nat) (hd : decode cc pc = .ok (.if_icmp .gt off, 3)) (ht : (pc : Int) + off = (tgt : Int)) (ha : inR a) (hb : inR b) (kt : b < a → J E G tgt lv st S) (kf : ¬ b < a → J E G (pc + 3) lv st S) : J E G pc lv (.int (iI b) :: .int (iI a) :: st) S := fun H locs ls hl hP hS => lv_icmp_gt C.1 C.2.1 hd ht (fun h => kt (by rw [iI_lt hb ha] at h; exact h) H locs ls hl hP hS) (fun h => kf (by rw [iI_lt hb ha] at h; exact h) H locs ls hl hP hS)
theorem J_icmp_le (C : jX E G cc nL own fr lo) {a b off : Int} (tgt : Nat) (hd : decode cc pc = .ok (.if_icmp .le off, 3)) (ht : (pc : Int) + off = (tgt : Int)) (ha : inR a) (hb : inR b) (kt : a ≤ b → J E G tgt lv st S) (kf : ¬ a ≤ b → J E G (pc + 3) lv st S) : J E G pc lv (.int (iI b) :: .int (iI a) :: st) S := fun H locs ls hl hP hS => lv_icmp_le C.1 C.2.1 hd ht (fun h => kt (by rw [iI_le ha hb] at h; exact h) H locs ls hl hP hS) (fun h => kf (by rw [iI_le ha hb] at h; exact h) H locs ls hl hP hS)
/-- the value on top has another name -/
theorem J_top {a b : Int} (h : a = b) (k : J E G pc lv (.int (iI b) :: st) S) : J E G pc lv (.int (iI a) :: st) S := h ▸ k
theorem J_mem {S' : jMem} (h : S = S') (k : J E G pc lv st S') : J E G pc lv st S := h ▸ k
/-- fewer locals, in any order -/
theorem J_lv (ks : List Nat) (h : lv_pick lv ks = lv') (k : J E G pc lv' st S) : J E G pc lv st S := fun H locs ls hl hP hS => k H locs ls (lv_sub hl ks h) hP hS
theorem J_get (C : jX E G cc nL own fr lo) {Cn : String} {T : u_T} {N ci idx j c k : Nat} {fl : List Nat} (hk : k < jn G) (hsh : jsh G k = .inl (ci, fl)) (hc : vwCl[ci]? = some (Cn, T, N)) (hin : ∀ w ∈ u_ws Cn T N, w ∈ lw_good) (hj : j < N) (hw : Cond.fieldLink own idx (T j).1 (T j).2.1 (T j).2.2.1 ∈ lw_good) (hf : fl[j]? = some c)
    (hd : decode cc pc = .ok (.getfield idx, 3)) (kk : J E G (pc + 3) lv (jfv (jad G) c (S k j) :: st) S) : J E G pc lv (.ref (jad G k) :: st) S := fun H locs ls hl hP hS => by
  obtain ⟨hx, hb, hml, hown, hts, hK, hT, hI, -⟩ := C
  have he := jws_get G S hk
  rw [hsh] at he
  have hv := jfs_get (jad G) (S k) fl 0 j c hf
  rw [Nat.zero_add] at hv
  exact va_get (D := jD G) (ci := ci) (C := Cn) (T := T) (N := N) (v := jfv (jad G) c (S k j)) hx hb hts hin hown hK hP k he hc j hj (hts _ hw) (fun _ h => h) hv hd (kk H locs ls hl hP hS)
theorem J_put (C : jX E G cc nL own fr lo) {Cn : String} {T : u_T} {N ci idx j c k : Nat} {fl : List Nat} (hk : k < jn G) (hsh : jsh G k = .inl (ci, fl)) (hc : vwCl[ci]? = some (Cn, T, N)) (hin : ∀ w ∈ u_ws Cn T N, w ∈ lw_good) (ty0 : Nat → FieldType) (hty : ∀ k, k < N → parseFieldDescriptor (T k).2.2.1 = some (ty0 k)) (hnm : ∀ a, a < N → ∀ b, b < N → a ≠ b → (T a).2.1 ≠ (T b).2.1) (hj : j < N) (hw : Cond.fieldLink own idx (T j).1 (T j).2.1 (T j).2.2.1 ∈ lw_good) (hfin : (T j).2.2.2 = false) (hf : fl[j]? = some c) {x : Int} (hn : narrow (ty0 j) (jfv (jad G) c x) = jfv (jad G) c x) (hfit : fits (ty0 j) (jfv (jad G) c x) = true)
    (hd : decode cc pc = .ok (.putfield idx, 3)) (kk : J E G (pc + 3) lv st (up2 S k j x)) : J E G pc lv (jfv (jad G) c x :: .ref (jad G k) :: st) S := fun H locs ls hl hP hS => by
  obtain ⟨hx, hb, hml, hown, hts, hK, hT, hI, -⟩ := C
  have he := jws_get G S hk
  rw [hsh] at he
  refine va_put (D := jD G) (ci := ci) (C := Cn) (T := T) (N := N) (v := jfv (jad G) c x) (ty := ty0 j) hx hb hts hin ty0 hty hnm hown hK hP (jD_of G S hI) hS k he hc j hj (hts _ hw) (fun _ h => h) hfin (hty j hj) hn hfit (by rw [jfs_len]; exact (List.getElem?_eq_some_iff.mp hf).1) hd (fun H1 locs1 hP1 hD1 hS1 => ?_)
  have hs := jfs_set (jad G) (S k) (up2 S k j x k) fl 0 j c hf (fun i hi => up2_a S k x (by omega))
  rw [Nat.zero_add, up2_eq] at hs
  rw [hs] at hP1
  rw [jws_set G S (up2 S k j x) hk (by rw [hsh]; rfl) (fun i hi => up2_k S j x hi)] at hP1
  exact kk H1 locs1 ls hl hP1 hS1
theorem J_ald (C : jX E G cc nL own fr lo) {k n : Nat} {a : Int} (hk : k < jn G) (hsh : jsh G k = .inr (false, n)) (hn : n ≤ 2147483647) (h0 : 0 ≤ a) (h1 : a < n) (hd : decode cc pc = .ok (.iaload, 1)) (kk : J E G (pc + 1) lv (.int (iI (S k a)) :: st) S) : J E G pc lv (.int (iI a) :: .ref (jad G k) :: st) S := fun H locs ls hl hP hS => by
  obtain ⟨hx, hb, hml, hown, hts, hK, hT, hI, -⟩ := C
  have he := jws_get G S hk
  rw [hsh] at he
  have h2 : a ≤ 2147483647 := by omega
  refine va_iald (D := jD G) hx hb hK hP k 0 he rfl (iI_in h0 h1 h2) hd ?_
  rw [iI_cl h0 h2, Int.toNat_of_nonneg h0]
  exact kk H locs ls hl hP hS
theorem J_ast (C : jX E G cc nL own fr lo) {k n : Nat} {a x : Int} (hk : k < jn G) (hsh : jsh G k = .inr (false, n)) (hn : n ≤ 2147483647) (h0 : 0 ≤ a) (h1 : a < n) (hd : decode cc pc = .ok (.iastore, 1)) (kk : J E G (pc + 1) lv st (up2 S k a x)) : J E G pc lv (.int (iI x) :: .int (iI a) :: .ref (jad G k) :: st) S := fun H locs ls hl hP hS => by
  obtain ⟨hx, hb, hml, hown, hts, hK, hT, hI, -⟩ := C
  have he := jws_get G S hk
  rw [hsh] at he
  have h2 : a ≤ 2147483647 := by omega
  refine va_iast (D := jD G) hx hb hK hP (jD_of G S hI) hS k 0 he rfl (iI_in h0 h1 h2) hd (fun H1 locs1 hP1 hD1 hS1 => ?_)
  rw [jws_set G S (up2 S k a x) hk ?_ (fun i hi => up2_k S a x hi)] at hP1
  · exact kk H1 locs1 ls hl hP1 hS1
  · rw [hsh]
    show _ = (.inl (_, n, .inl (fun j : Nat => iI (up2 S k a x k j))) : va_E)
    congr 4
    funext j
    unfold upd up2
    rw [iI_cl h0 h2]
    by_cases hj : j = a.toNat
    · rw [if_pos hj, if_pos ⟨rfl, by omega⟩]
    · rw [if_neg hj, if_neg (fun q => hj (by omega))]
theorem J_zld (C : jX E G cc nL own fr lo) {k n : Nat} {a : Int} (hk : k < jn G) (hsh : jsh G k = .inr (true, n)) (hn : n ≤ 2147483647) (h0 : 0 ≤ a) (h1 : a < n) (hd : decode cc pc = .ok (.baload, 1)) (kk : J E G (pc + 1) lv (.int (iI (S k a)) :: st) S) : J E G pc lv (.int (iI a) :: .ref (jad G k) :: st) S := fun H locs ls hl hP hS => by
  obtain ⟨hx, hb, hml, hown, hts, hK, hT, hI, -⟩ := C
  have he := jws_get G S hk
  rw [hsh] at he
  have h2 : a ≤ 2147483647 := by omega
  refine va_zald (D := jD G) hx hb hK hP k 1 he rfl (iI_in h0 h1 h2) hd ?_
  rw [iI_cl h0 h2, Int.toNat_of_nonneg h0]
  exact kk H locs ls hl hP hS
theorem iI_nar {x : Int} (h : x = 0 ∨ x = 1) : vp_nar .boolean (iI x) = iI x := by
  rcases h with rfl | rfl <;> decide
theorem J_zst (C : jX E G cc nL own fr lo) {k n : Nat} {a x : Int} (hk : k < jn G) (hsh : jsh G k = .inr (true, n)) (hn : n ≤ 2147483647) (h0 : 0 ≤ a) (h1 : a < n) (hxx : x = 0 ∨ x = 1) (hd : decode cc pc = .ok (.bastore, 1)) (kk : J E G (pc + 1) lv st (up2 S k a x)) : J E G pc lv (.int (iI x) :: .int (iI a) :: .ref (jad G k) :: st) S := fun H locs ls hl hP hS => by
  obtain ⟨hx, hb, hml, hown, hts, hK, hT, hI, -⟩ := C
  have he := jws_get G S hk
  rw [hsh] at he
  have h2 : a ≤ 2147483647 := by omega
  refine va_zast (D := jD G) hx hb hK hP (jD_of G S hI) hS k 1 he rfl (iI_in h0 h1 h2) hd (fun H1 locs1 hP1 hD1 hS1 => ?_)
  rw [iI_nar hxx] at hP1
  rw [jws_set G S (up2 S k a x) hk ?_ (fun i hi => up2_k S a x hi)] at hP1
  · exact kk H1 locs1 ls hl hP1 hS1
  · rw [hsh]
    show _ = (.inl (_, n, .inl (fun j : Nat => iI (up2 S k a x k j))) : va_E)
    congr 4
    funext j
    unfold upd up2
    rw [iI_cl h0 h2]
    by_cases hj : j = a.toNat
    · rw [if_pos hj, if_pos ⟨rfl, by omega⟩]
    · rw [if_neg hj, if_neg (fun q => hj (by omega))]
theorem J_alen (C : jX E G cc nL own fr lo) {k n : Nat} (hk : k < jn G) (hsh : jsh G k = .inr (false, n)) (hd : decode cc pc = .ok (.arraylength, 1)) (kk : J E G (pc + 1) lv (.int (iI n) :: st) S) : J E G pc lv (.ref (jad G k) :: st) S := fun H locs ls hl hP hS => by
  obtain ⟨hx, hb, hml, hown, hts, hK, hT, hI, -⟩ := C
  have he := jws_get G S hk
  rw [hsh] at he
  exact va_alen (D := jD G) (v := iI n) hx hb hK hP k 0 he rfl Int32.ofInt_eq_ofNat.symm hd (kk H locs ls hl hP hS)
/-- the class's table: its reference, a place of it -/
theorem J_gets (C : jX E G cc nL own fr lo) {idx : Nat} (hw : Cond.fieldLink own idx "PlaceRectangles$Stock" "SIDES_OF_TURNS" "[I" ∈ lw_good) (hd : decode cc pc = .ok (.getstatic idx, 3)) (kk : J E G (pc + 3) lv (.ref (jt G) :: st) S) : J E G pc lv st S := fun H locs ls hl hP hS => by
  obtain ⟨hx, hb, hml, hown, hts, hK, hT, hI, -⟩ := C
  exact va_gets hx hb hT.1 hS hown (hts _ hw) (fun _ h => h) hd (kk H locs ls hl hP hS)
theorem J_tld (C : jX E G cc nL own fr lo) {a : Int} (h0 : 0 ≤ a) (h1 : a < 18) (hd : decode cc pc = .ok (.iaload, 1)) (kk : J E G (pc + 1) lv (.int (iI (sd a)) :: st) S) : J E G pc lv (.int (iI a) :: .ref (jt G) :: st) S := fun H locs ls hl hP hS => by
  obtain ⟨hx, hb, hml, hown, hts, hK, hT, hI, -⟩ := C
  refine va_ti hx hb hT.2.1 hS (iI_in h0 (by omega) (by omega)) (v := .int (iI (sd a))) ?_ hd (kk H locs ls hl hP hS)
  show Value.int (iI (sd ((iI a).toNatClampNeg : Nat))) = _
  rw [iI_cl h0 (by omega), Int.toNat_of_nonneg h0]
/-- ends of methods -/
theorem J_iret (R : jR E G (some .int) post) (C : jX E G cc nL own fr lo) {a : Int} (hd : decode cc pc = .ok (.ireturn, 1)) (h : post (some (.int (iI a))) S) : J E G pc lv [.int (iI a)] S := fun H locs ls hl hP hS => by
  obtain ⟨p, e, RR, s, m, args, below, meth, c, cells, slots, Q⟩ := E
  obtain ⟨hQ, hr, hlk⟩ := R
  obtain ⟨hx, hb, -⟩ := C
  dsimp only at hQ hr hlk hx hb
  subst hQ
  exact W.iret (v := iI a) hx hb hr (fun t ht hW => ⟨⟨_, S, rfl, h, by rw [ht]; exact hP⟩, hS.F ht⟩) hS.2.2 hd hlk
theorem J_zret (R : jR E G (some .boolean) post) (C : jX E G cc nL own fr lo) {a : Int} (hd : decode cc pc = .ok (.ireturn, 1)) (ha : a = 0 ∨ a = 1) (h : post (some (.int (iI a))) S) : J E G pc lv [.int (iI a)] S := fun H locs ls hl hP hS => by
  obtain ⟨p, e, RR, s, m, args, below, meth, c, cells, slots, Q⟩ := E
  obtain ⟨hQ, hr, hlk⟩ := R
  obtain ⟨hx, hb, -⟩ := C
  dsimp only at hQ hr hlk hx hb
  subst hQ
  exact W.zret (v := iI a) (ty := .boolean) hx hb hr (by rcases ha with rfl | rfl <;> decide) (fun t ht hW => ⟨⟨_, S, rfl, h, by rw [ht]; exact hP⟩, hS.F ht⟩) hS.2.2 hd hlk
theorem J_lret (R : jR E G (some .long) post) (C : jX E G cc nL own fr lo) {a : Int} (hd : decode cc pc = .ok (.lreturn, 1)) (h : post (some (.long (iL a))) S) : J E G pc lv [.long (iL a)] S := fun H locs ls hl hP hS => by
  obtain ⟨p, e, RR, s, m, args, below, meth, c, cells, slots, Q⟩ := E
  obtain ⟨hQ, hr, hlk⟩ := R
  obtain ⟨hx, hb, -⟩ := C
  dsimp only at hQ hr hlk hx hb
  subst hQ
  exact W.lret (v := iL a) hx hb hr (fun t ht hW => ⟨⟨_, S, rfl, h, by rw [ht]; exact hP⟩, hS.F ht⟩) hS.2.2 hd hlk
theorem J_vret (R : jR E G none post) (C : jX E G cc nL own fr lo) (hd : decode cc pc = .ok (.return_, 1)) (h : post none S) : J E G pc lv [] S := fun H locs ls hl hP hS => by
  obtain ⟨p, e, RR, s, m, args, below, meth, c, cells, slots, Q⟩ := E
  obtain ⟨hQ, hr, hlk⟩ := R
  obtain ⟨hx, hb, -⟩ := C
  dsimp only at hQ hr hlk hx hb
  subst hQ
  exact W.vret hx hb hr (fun t ht hW => ⟨⟨_, S, rfl, h, by rw [ht]; exact hP⟩, hS.F ht⟩) hS.2.2 hd hlk
end JR
end
section
/-! calls over a component -/
def jPi (p : Int → jMem → Prop) : Option Value → jMem → Prop := fun r S' => ∃ v : Int, r = some (.int (iI v)) ∧ p v S'
def jPl (p : Int → jMem → Prop) : Option Value → jMem → Prop := fun r S' => ∃ v : Int, r = some (.long (iL v)) ∧ p v S'
def jPv (p : jMem → Prop) : Option Value → jMem → Prop := fun r S' => r = none ∧ p S'
/-- what a call needs of the tables: of the method called -/
def jcal (y : MethodName) (bc : ByteArray) (nL : Nat) (ret : Option FieldType) (n : Nat) : Prop := Cond.code y bc nL ret ∈ lw_good ∧ Cond.initialized y.cls ∈ lw_good ∧ (y.cls ≠ "java/lang/invoke/MethodHandle" ∧ y.cls ≠ "java/lang/invoke/VarHandle" ∧ (parseMethodDescriptor y.desc).map (fun d => d.parameters.length) = some n)
def jcalV (y : MethodName) (bc : ByteArray) (nL : Nat) (ret : Option FieldType) (n : Nat) : Prop := jcal y bc nL ret n ∧ Cond.instanceMethod y ∈ lw_good ∧ Cond.selects y.cls y y ∈ lw_good
def jcalS (y : MethodName) (bc : ByteArray) (nL : Nat) (ret : Option FieldType) (n : Nat) : Prop := jcal y bc nL ret n ∧ Cond.static y ∈ lw_good
theorem jgood {y : MethodName} {bc : ByteArray} {nL n : Nat} {ret : Option FieldType} (h : jcal y bc nL ret n) : GoodIn lw_good (.code y bc nL ret :: lw_good) := by
  intro w hw
  rcases List.mem_cons.mp hw with rfl | hw
  · exact ⟨h.1, good_of_word (List.mem_filter.mp h.1).2⟩
  · exact ⟨hw, good_of_word (List.mem_filter.mp hw).2⟩
section JC
variable {E : jEnv} {G : jG} {cc : ByteArray} {nL : Nat} {own : String} {fr lo : Nat} {pc : Nat} {lv lv' : List (Nat × Value)} {st rest : List Value} {S : jMem} {ret : Option FieldType} {post : Option Value → jMem → Prop}
theorem J_run {a : Array Value} (hr : ∀ (H : Heap) (locs : List Loc) (ls : Array Slot), lv_has ls E.2.2.2.2.2.2.2.2.1.maxLocals lv → va_P (jD G) vwCl (jws G S) H → va_S (jA G) E.2.2.2.1.heap H locs →
      va_Run E.1 (jl G) E.2.1 E.2.2.1 E.2.2.2.1 E.2.2.2.2.1 E.2.2.2.2.2.1 E.2.2.2.2.2.2.1 E.2.2.2.2.2.2.2.1 E.2.2.2.2.2.2.2.2.1 H locs E.2.2.2.2.2.2.2.2.2.1 E.2.2.2.2.2.2.2.2.2.2.1 0 0 (F0 E.2.2.2.2.1 pc ls st) rest (jQ G post a) (jA G))
    (kk : ∀ (r : Option Value) (S' : jMem), post r S' → J E G (pc + 3) lv (r.toList ++ rest) S') : J E G pc lv st S := by
  intro H locs ls hl hP hS T hT X
  obtain ⟨v, st₀, t, T', L, h0, X', hL, e1, e2, ⟨⟨r, S', hv, hp, hP1⟩, hz, hk⟩, go⟩ := hr H locs ls hl hP hS T hT X
  cases hv
  rw [h0] at hz hk
  have hS1 : va_S (jA G) E.2.2.2.1.heap t.heap (locs ++ L) := ⟨Nat.le_trans hS.1 hz, fun q h1 h2 => by rw [hk q (Nat.lt_of_lt_of_le h1 hS.1) h2]; exact hS.2.1 q h1 h2, fun q hq => by
    rcases List.mem_append.mp hq with h | h
    · exact hS.2.2 q h
    · exact hL q h⟩
  obtain ⟨t2, a1, b1⟩ := kk v S' hp t.heap (locs ++ L) ls hl hP1 hS1 T' e1 X'
  exact ⟨t2, go t2 a1, b1⟩
theorem J_callV (C : jX E G cc nL own fr lo) {y : MethodName} {bc : ByteArray} {nL' n fr' lo' k ci idx N : Nat} {ret' : Option FieldType} {T : u_T} {fl : List Nat} {As : List Value} (hM : jM G y bc nL' ret' fr' lo' (.ref (jad G k) :: As) S post) (hw : jcalV y bc nL' ret' n) (hl' : Cond.methodLink own idx y ∈ lw_good) (hk : k < jn G) (hsh : jsh G k = .inl (ci, fl)) (hc : vwCl[ci]? = some (y.cls, T, N))
    (hd : decode cc pc = .ok (.invokevirtual idx, 3)) (hn : As.length = n) (hst : st = As.reverse ++ .ref (jad G k) :: rest) (hrm : fr' + 1 ≤ fr ∧ 8 + (nL' + 11) + lo' ≤ lo) (hcat : (rest.map fun v => v.category).sum ≤ 8)
    (kk : ∀ (r : Option Value) (S' : jMem), post r S' → J E G (pc + 3) lv (r.toList ++ rest) S') : J E G pc lv st S := by
  refine J_run (a := (Value.ref (jad G k) :: As).toArray) (fun H locs ls hl hP hS => ?_) kk
  obtain ⟨hx, hb, hml, hown, hts, hK, hT, hI, hfr, hlo, hce, hsl⟩ := C
  have he := jws_get G S hk
  rw [hsh] at he
  refine va_runV (C := y.cls) (As := As) (rest := rest) ⟨hx, hb, rfl, hown, hts⟩ hM ⟨callB_of n hts (jgood hw.1) rfl rfl rfl (hts _ hw.1.2.1) (hts _ hl') hw.1.2.2 ⟨by show fr' + 1 ≤ _; omega, by show 8 + (nL' + 11) + lo' ≤ _; omega⟩, hts _ hw.2.1, hts _ hw.2.2⟩ ⟨jW.blind, va_recv hK hP hc he, fun U hU hW => ⟨rfl, by rw [hU]; exact hP, va_K.moved hW.alike hK, ?_, hI⟩⟩ rfl hn hl.1 hst (lv_room hcat) hd ⟨hce, hsl⟩
  rw [hU]
  exact (hT.kept hS.2.1).moved hW
theorem J_callS (C : jX E G cc nL own fr lo) {y : MethodName} {bc : ByteArray} {nL' n fr' lo' idx : Nat} {ret' : Option FieldType} {As : List Value} (hM : jM G y bc nL' ret' fr' lo' As S post) (hw : jcalS y bc nL' ret' n) (hl' : Cond.methodLink own idx y ∈ lw_good)
    (hd : decode cc pc = .ok (.invokestatic idx, 3)) (hn : As.length = n) (hst : st = As.reverse ++ rest) (hrm : fr' + 1 ≤ fr ∧ 8 + (nL' + 11) + lo' ≤ lo) (hcat : (rest.map fun v => v.category).sum ≤ 8)
    (kk : ∀ (r : Option Value) (S' : jMem), post r S' → J E G (pc + 3) lv (r.toList ++ rest) S') : J E G pc lv st S := by
  refine J_run (a := As.toArray) (fun H locs ls hl hP hS => ?_) kk
  obtain ⟨hx, hb, hml, hown, hts, hK, hT, hI, hfr, hlo, hce, hsl⟩ := C
  refine va_runS (As := As) (rest := rest) ⟨hx, hb, rfl, hown, hts⟩ hM ⟨callB_of n hts (jgood hw.1) rfl rfl rfl (hts _ hw.1.2.1) (hts _ hl') hw.1.2.2 ⟨by show fr' + 1 ≤ _; omega, by show 8 + (nL' + 11) + lo' ≤ _; omega⟩, hts _ hw.2⟩ ⟨jW.blind, fun U hU hW => ⟨rfl, by rw [hU]; exact hP, va_K.moved hW.alike hK, ?_, hI⟩⟩ rfl hn hl.1 hst (lv_room hcat) hd ⟨hce, hsl⟩
  rw [hU]
  exact (hT.kept hS.2.1).moved hW
theorem J_callN (C : jX E G cc nL own fr lo) {y : MethodName} {bc : ByteArray} {nL' n fr' lo' idx : Nat} {ret' : Option FieldType} {As : List Value} (hM : jM G y bc nL' ret' fr' lo' As S post) (hw : jcalS y bc nL' ret' n) {host : String} (hl' : Cond.methodLinkNest own idx y host ∈ jnest)
    (hd : decode cc pc = .ok (.invokestatic idx, 3)) (hn : As.length = n) (hst : st = As.reverse ++ rest) (hrm : fr' + 1 ≤ fr ∧ 8 + (nL' + 11) + lo' ≤ lo) (hcat : (rest.map fun v => v.category).sum ≤ 8)
    (kk : ∀ (r : Option Value) (S' : jMem), post r S' → J E G (pc + 3) lv (r.toList ++ rest) S') : J E G pc lv st S := by
  refine J_run (a := As.toArray) (fun H locs ls hl hP hS => ?_) kk
  obtain ⟨hx, hb, hml, hown, hts, hK, hT, hI, hfr, hlo, hce, hsl⟩ := C
  refine va_runSN (As := As) (rest := rest) (host := host) ⟨hx, hb, rfl, hown, hts⟩ hM ⟨va_cnB n hts (jgood hw.1) rfl rfl rfl (hT.2.2 _ hl') (hts _ hw.1.2.1) hw.1.2.2 ⟨by show fr' + 1 ≤ _; omega, by show 8 + (nL' + 11) + lo' ≤ _; omega⟩, hts _ hw.2, trivial⟩ ⟨jW.blind, fun U hU hW => ⟨rfl, by rw [hU]; exact hP, va_K.moved hW.alike hK, ?_, hI⟩⟩ rfl hn hl.1 hst (lv_room hcat) hd ⟨hce, hsl⟩
  rw [hU]
  exact (hT.kept hS.2.1).moved hW
/-- what stands on the stack behind a call -/
theorem J_ki {p : Int → jMem → Prop} (kk : ∀ (v : Int) (S' : jMem), p v S' → J E G pc lv (.int (iI v) :: rest) S') : ∀ (r : Option Value) (S' : jMem), jPi p r S' → J E G pc lv (r.toList ++ rest) S' := by
  rintro r S' ⟨v, rfl, h⟩
  exact kk v S' h
theorem J_kl {p : Int → jMem → Prop} (kk : ∀ (v : Int) (S' : jMem), p v S' → J E G pc lv (.long (iL v) :: rest) S') : ∀ (r : Option Value) (S' : jMem), jPl p r S' → J E G pc lv (r.toList ++ rest) S' := by
  rintro r S' ⟨v, rfl, h⟩
  exact kk v S' h
theorem J_kv {p : jMem → Prop} (kk : ∀ (S' : jMem), p S' → J E G pc lv rest S') : ∀ (r : Option Value) (S' : jMem), jPv p r S' → J E G pc lv (r.toList ++ rest) S' := by
  rintro r S' ⟨rfl, h⟩
  exact kk S' h
end JC
theorem jPi.mk {p : Int → jMem → Prop} {v : Int} {S : jMem} (h : p v S) : jPi p (some (.int (iI v))) S := ⟨v, rfl, h⟩
theorem jPl.mk {p : Int → jMem → Prop} {v : Int} {S : jMem} (h : p v S) : jPl p (some (.long (iL v))) S := ⟨v, rfl, h⟩
theorem jPv.mk {p : jMem → Prop} {S : jMem} (h : p S) : jPv p none S := ⟨rfl, h⟩
/-- a contract's end may be told weaker -/
theorem jM.mono {G : jG} {y : MethodName} {cc : ByteArray} {nL : Nat} {ret : Option FieldType} {fr lo : Nat} {av : List Value} {S : jMem} {post post' : Option Value → jMem → Prop} (h : jM G y cc nL ret fr lo av S post) (hp : ∀ r S', post r S' → post' r S') : jM G y cc nL ret fr lo av S post' := by
  intro p e ha hc hk s m args below hf happ hP hK
  obtain ⟨n, o, h1, h2, h3, ⟨⟨r, S', a1, a2, a3⟩, a4⟩, a5⟩ := h p e ha hc hk s m args below hf happ hP hK
  exact ⟨n, o, h1, h2, h3, ⟨⟨r, S', a1, hp _ _ a2, a3⟩, a4⟩, a5⟩
end
section
/-! the shapes of the two components, and what they need of the tables -/
def csh (k : Nat) : jSh := ([.inl (5, [3, 8, 20, 24, 27]), .inl (4, [4, 5, 6, 7, 0]), .inr (false, 3), .inr (false, 24), .inr (false, 8), .inr (false, 8), .inl (3, [3, 9, 10, 11, 12, 13, 14, 15, 16, 17, 18, 19, 0, 0, 0, 0]), .inr (false, 8), .inr (false, 24), .inr (false, 8), .inr (false, 24), .inr (false, 24), .inr (false, 24), .inr (false, 24), .inr (false, 8), .inr (false, 8), .inr (false, 8), .inr (false, 8), .inl (2, [3, 21, 22, 23, 0]), .inr (false, 8), .inr (false, 24), .inr (false, 24), .inl (0, [20, 25, 26]), .inr (false, 60), .inr (false, 9), .inl (1, [3, 28, 29, 30, 31, 32, 0, 33, 0, 0]), .inr (false, 4), .inr (false, 1323), .inr (false, 144), .inr (false, 9), .inr (false, 48), .inr (false, 3)] : List jSh).getD k (.inr (false, 0))
def msh (k : Nat) : jSh := ([.inl (6, [3, 0, 4, 5, 6, 7, 8, 0, 0, 1, 9, 10, 11, 12, 13, 14, 15, 16, 17, 18, 19, 0, 20, 21, 22, 0, 23]), .inr (false, 3), .inr (false, 24), .inr (false, 8), .inr (false, 8), .inr (false, 8), .inr (false, 24), .inr (false, 8), .inr (false, 8), .inr (false, 8), .inr (false, 24), .inr (true, 3408), .inr (false, 144), .inr (false, 48), .inr (false, 20), .inr (false, 20), .inr (false, 20), .inr (false, 20), .inr (false, 20), .inr (false, 20), .inr (false, 20), .inr (false, 4)] : List jSh).getD k (.inr (false, 0))
def cG (G : jG) : Prop := jsh G = csh ∧ jn G = 32
def mG (G : jG) : Prop := jsh G = msh ∧ jn G = 22
set_option maxRecDepth 50000 in
theorem ku_X0 : ∀ w ∈ u_ws RX0 TX0 3, w ∈ lw_good := by decide +kernel
set_option maxRecDepth 50000 in
theorem ku_X1 : ∀ w ∈ u_ws RX1 TX1 10, w ∈ lw_good := by decide +kernel
set_option maxRecDepth 50000 in
theorem ku_X2 : ∀ w ∈ u_ws RX2 TX2 5, w ∈ lw_good := by decide +kernel
set_option maxRecDepth 50000 in
theorem ku_X3 : ∀ w ∈ u_ws RX3 TX3 16, w ∈ lw_good := by decide +kernel
set_option maxRecDepth 50000 in
theorem ku_X4 : ∀ w ∈ u_ws RX4 TX4 5, w ∈ lw_good := by decide +kernel
set_option maxRecDepth 50000 in
theorem ku_X5 : ∀ w ∈ u_ws RX5 TX5 5, w ∈ lw_good := by decide +kernel
set_option maxRecDepth 50000 in
theorem ku_X6 : ∀ w ∈ u_ws RX6 TX6 27, w ∈ lw_good := by decide +kernel
set_option maxRecDepth 50000 in
theorem kc_X0_build : jcalV yX0_build cX0_build 7 (some .int) 0 := ⟨⟨lw_good_of (List.mem_of_getElem? (i := 540) rfl) rfl, lw_good_of (List.mem_of_getElem? (i := 66) rfl) rfl, by decide +kernel, by decide +kernel, by decide +kernel⟩, lw_good_of (List.mem_of_getElem? (i := 538) rfl) rfl, lw_good_of (List.mem_of_getElem? (i := 539) rfl) rfl⟩
set_option maxRecDepth 50000 in
theorem kc_X0_write : jcalV yX0_write cX0_write 7 none 5 := ⟨⟨lw_good_of (List.mem_of_getElem? (i := 545) rfl) rfl, lw_good_of (List.mem_of_getElem? (i := 66) rfl) rfl, by decide +kernel, by decide +kernel, by decide +kernel⟩, lw_good_of (List.mem_of_getElem? (i := 544) rfl) rfl, lw_good_of (List.mem_of_getElem? (i := 18) rfl) rfl⟩
set_option maxRecDepth 50000 in
theorem kc_X0_axisOfCut : jcalV yX0_axisOfCut cX0_axisOfCut 3 (some .int) 1 := ⟨⟨lw_good_of (List.mem_of_getElem? (i := 549) rfl) rfl, lw_good_of (List.mem_of_getElem? (i := 66) rfl) rfl, by decide +kernel, by decide +kernel, by decide +kernel⟩, lw_good_of (List.mem_of_getElem? (i := 548) rfl) rfl, lw_good_of (List.mem_of_getElem? (i := 19) rfl) rfl⟩
set_option maxRecDepth 50000 in
theorem kc_X0_cutPlaces : jcalV yX0_cutPlaces cX0_cutPlaces 9 (some .int) 2 := ⟨⟨lw_good_of (List.mem_of_getElem? (i := 553) rfl) rfl, lw_good_of (List.mem_of_getElem? (i := 66) rfl) rfl, by decide +kernel, by decide +kernel, by decide +kernel⟩, lw_good_of (List.mem_of_getElem? (i := 552) rfl) rfl, lw_good_of (List.mem_of_getElem? (i := 20) rfl) rfl⟩
set_option maxRecDepth 50000 in
theorem kc_X0_boxesBefore : jcalV yX0_boxesBefore cX0_boxesBefore 6 (some .int) 3 := ⟨⟨lw_good_of (List.mem_of_getElem? (i := 559) rfl) rfl, lw_good_of (List.mem_of_getElem? (i := 66) rfl) rfl, by decide +kernel, by decide +kernel, by decide +kernel⟩, lw_good_of (List.mem_of_getElem? (i := 558) rfl) rfl, lw_good_of (List.mem_of_getElem? (i := 21) rfl) rfl⟩
set_option maxRecDepth 50000 in
theorem kc_X1_forget : jcalV yX1_forget cX1_forget 1 none 0 := ⟨⟨lw_good_of (List.mem_of_getElem? (i := 298) rfl) rfl, lw_good_of (List.mem_of_getElem? (i := 67) rfl) rfl, by decide +kernel, by decide +kernel, by decide +kernel⟩, lw_good_of (List.mem_of_getElem? (i := 296) rfl) rfl, lw_good_of (List.mem_of_getElem? (i := 297) rfl) rfl⟩
set_option maxRecDepth 50000 in
theorem kc_X1_lastFunction : jcalV yX1_lastFunction cX1_lastFunction 2 (some .int) 1 := ⟨⟨lw_good_of (List.mem_of_getElem? (i := 576) rfl) rfl, lw_good_of (List.mem_of_getElem? (i := 67) rfl) rfl, by decide +kernel, by decide +kernel, by decide +kernel⟩, lw_good_of (List.mem_of_getElem? (i := 575) rfl) rfl, lw_good_of (List.mem_of_getElem? (i := 22) rfl) rfl⟩
set_option maxRecDepth 50000 in
theorem kc_X1_isFunction : jcalV yX1_isFunction cX1_isFunction 3 (some .boolean) 2 := ⟨⟨lw_good_of (List.mem_of_getElem? (i := 572) rfl) rfl, lw_good_of (List.mem_of_getElem? (i := 67) rfl) rfl, by decide +kernel, by decide +kernel, by decide +kernel⟩, lw_good_of (List.mem_of_getElem? (i := 570) rfl) rfl, lw_good_of (List.mem_of_getElem? (i := 571) rfl) rfl⟩
set_option maxRecDepth 50000 in
theorem kc_X1_valueOf : jcalS yX1_valueOf cX1_valueOf 6 (some .int) 3 := ⟨⟨lw_good_of (List.mem_of_getElem? (i := 579) rfl) rfl, lw_good_of (List.mem_of_getElem? (i := 67) rfl) rfl, by decide +kernel, by decide +kernel, by decide +kernel⟩, lw_good_of (List.mem_of_getElem? (i := 578) rfl) rfl⟩
set_option maxRecDepth 50000 in
theorem kc_X1_prepare : jcalV yX1_prepare cX1_prepare 3 none 0 := ⟨⟨lw_good_of (List.mem_of_getElem? (i := 588) rfl) rfl, lw_good_of (List.mem_of_getElem? (i := 67) rfl) rfl, by decide +kernel, by decide +kernel, by decide +kernel⟩, lw_good_of (List.mem_of_getElem? (i := 586) rfl) rfl, lw_good_of (List.mem_of_getElem? (i := 587) rfl) rfl⟩
set_option maxRecDepth 50000 in
theorem kc_X1_tellValues : jcalV yX1_tellValues cX1_tellValues 5 none 1 := ⟨⟨lw_good_of (List.mem_of_getElem? (i := 592) rfl) rfl, lw_good_of (List.mem_of_getElem? (i := 67) rfl) rfl, by decide +kernel, by decide +kernel, by decide +kernel⟩, lw_good_of (List.mem_of_getElem? (i := 591) rfl) rfl, lw_good_of (List.mem_of_getElem? (i := 23) rfl) rfl⟩
set_option maxRecDepth 50000 in
theorem kc_X1_tellTurns : jcalV yX1_tellTurns cX1_tellTurns 6 (some .int) 2 := ⟨⟨lw_good_of (List.mem_of_getElem? (i := 597) rfl) rfl, lw_good_of (List.mem_of_getElem? (i := 67) rfl) rfl, by decide +kernel, by decide +kernel, by decide +kernel⟩, lw_good_of (List.mem_of_getElem? (i := 596) rfl) rfl, lw_good_of (List.mem_of_getElem? (i := 24) rfl) rfl⟩
set_option maxRecDepth 50000 in
theorem kc_X1_choose : jcalV yX1_choose cX1_choose 7 none 2 := ⟨⟨lw_good_of (List.mem_of_getElem? (i := 603) rfl) rfl, lw_good_of (List.mem_of_getElem? (i := 67) rfl) rfl, by decide +kernel, by decide +kernel, by decide +kernel⟩, lw_good_of (List.mem_of_getElem? (i := 601) rfl) rfl, lw_good_of (List.mem_of_getElem? (i := 602) rfl) rfl⟩
set_option maxRecDepth 50000 in
theorem kc_X1_binHas : jcalV yX1_binHas cX1_binHas 2 (some .int) 1 := ⟨⟨lw_good_of (List.mem_of_getElem? (i := 615) rfl) rfl, lw_good_of (List.mem_of_getElem? (i := 67) rfl) rfl, by decide +kernel, by decide +kernel, by decide +kernel⟩, lw_good_of (List.mem_of_getElem? (i := 613) rfl) rfl, lw_good_of (List.mem_of_getElem? (i := 614) rfl) rfl⟩
set_option maxRecDepth 50000 in
theorem kc_X1_needOf : jcalV yX1_needOf cX1_needOf 9 (some .int) 2 := ⟨⟨lw_good_of (List.mem_of_getElem? (i := 611) rfl) rfl, lw_good_of (List.mem_of_getElem? (i := 67) rfl) rfl, by decide +kernel, by decide +kernel, by decide +kernel⟩, lw_good_of (List.mem_of_getElem? (i := 609) rfl) rfl, lw_good_of (List.mem_of_getElem? (i := 610) rfl) rfl⟩
set_option maxRecDepth 50000 in
theorem kc_X1_proves : jcalV yX1_proves cX1_proves 3 (some .boolean) 2 := ⟨⟨lw_good_of (List.mem_of_getElem? (i := 648) rfl) rfl, lw_good_of (List.mem_of_getElem? (i := 67) rfl) rfl, by decide +kernel, by decide +kernel, by decide +kernel⟩, lw_good_of (List.mem_of_getElem? (i := 647) rfl) rfl, lw_good_of (List.mem_of_getElem? (i := 29) rfl) rfl⟩
set_option maxRecDepth 50000 in
theorem kc_X1_seekProof : jcalV yX1_seekProof cX1_seekProof 3 none 0 := ⟨⟨lw_good_of (List.mem_of_getElem? (i := 625) rfl) rfl, lw_good_of (List.mem_of_getElem? (i := 67) rfl) rfl, by decide +kernel, by decide +kernel, by decide +kernel⟩, lw_good_of (List.mem_of_getElem? (i := 623) rfl) rfl, lw_good_of (List.mem_of_getElem? (i := 624) rfl) rfl⟩
set_option maxRecDepth 50000 in
theorem kc_X1_seekOnLastAxis : jcalV yX1_seekOnLastAxis cX1_seekOnLastAxis 4 (some .boolean) 2 := ⟨⟨lw_good_of (List.mem_of_getElem? (i := 642) rfl) rfl, lw_good_of (List.mem_of_getElem? (i := 67) rfl) rfl, by decide +kernel, by decide +kernel, by decide +kernel⟩, lw_good_of (List.mem_of_getElem? (i := 641) rfl) rfl, lw_good_of (List.mem_of_getElem? (i := 28) rfl) rfl⟩
set_option maxRecDepth 50000 in
theorem kc_X1_isTried : jcalV yX1_isTried cX1_isTried 3 (some .boolean) 2 := ⟨⟨lw_good_of (List.mem_of_getElem? (i := 634) rfl) rfl, lw_good_of (List.mem_of_getElem? (i := 67) rfl) rfl, by decide +kernel, by decide +kernel, by decide +kernel⟩, lw_good_of (List.mem_of_getElem? (i := 633) rfl) rfl, lw_good_of (List.mem_of_getElem? (i := 26) rfl) rfl⟩
set_option maxRecDepth 50000 in
theorem kc_X1_leaveOutIdle : jcalV yX1_leaveOutIdle cX1_leaveOutIdle 5 none 1 := ⟨⟨lw_good_of (List.mem_of_getElem? (i := 630) rfl) rfl, lw_good_of (List.mem_of_getElem? (i := 67) rfl) rfl, by decide +kernel, by decide +kernel, by decide +kernel⟩, lw_good_of (List.mem_of_getElem? (i := 629) rfl) rfl, lw_good_of (List.mem_of_getElem? (i := 25) rfl) rfl⟩
set_option maxRecDepth 50000 in
theorem kc_X1_givesNoLess : jcalV yX1_givesNoLess cX1_givesNoLess 9 (some .boolean) 3 := ⟨⟨lw_good_of (List.mem_of_getElem? (i := 638) rfl) rfl, lw_good_of (List.mem_of_getElem? (i := 67) rfl) rfl, by decide +kernel, by decide +kernel, by decide +kernel⟩, lw_good_of (List.mem_of_getElem? (i := 637) rfl) rfl, lw_good_of (List.mem_of_getElem? (i := 27) rfl) rfl⟩
set_option maxRecDepth 50000 in
theorem kc_X1_keep : jcalV yX1_keep cX1_keep 5 none 4 := ⟨⟨lw_good_of (List.mem_of_getElem? (i := 657) rfl) rfl, lw_good_of (List.mem_of_getElem? (i := 67) rfl) rfl, by decide +kernel, by decide +kernel, by decide +kernel⟩, lw_good_of (List.mem_of_getElem? (i := 656) rfl) rfl, lw_good_of (List.mem_of_getElem? (i := 31) rfl) rfl⟩
set_option maxRecDepth 50000 in
theorem kc_X1_reason : jcalV yX1_reason cX1_reason 5 (some .int) 1 := ⟨⟨lw_good_of (List.mem_of_getElem? (i := 653) rfl) rfl, lw_good_of (List.mem_of_getElem? (i := 67) rfl) rfl, by decide +kernel, by decide +kernel, by decide +kernel⟩, lw_good_of (List.mem_of_getElem? (i := 652) rfl) rfl, lw_good_of (List.mem_of_getElem? (i := 30) rfl) rfl⟩
set_option maxRecDepth 50000 in
theorem kc_X2_holds : jcalV yX2_holds cX2_holds 2 (some .boolean) 1 := ⟨⟨lw_good_of (List.mem_of_getElem? (i := 467) rfl) rfl, lw_good_of (List.mem_of_getElem? (i := 65) rfl) rfl, by decide +kernel, by decide +kernel, by decide +kernel⟩, lw_good_of (List.mem_of_getElem? (i := 465) rfl) rfl, lw_good_of (List.mem_of_getElem? (i := 466) rfl) rfl⟩
set_option maxRecDepth 50000 in
theorem kc_X2_takeAway : jcalV yX2_takeAway cX2_takeAway 2 none 1 := ⟨⟨lw_good_of (List.mem_of_getElem? (i := 480) rfl) rfl, lw_good_of (List.mem_of_getElem? (i := 65) rfl) rfl, by decide +kernel, by decide +kernel, by decide +kernel⟩, lw_good_of (List.mem_of_getElem? (i := 478) rfl) rfl, lw_good_of (List.mem_of_getElem? (i := 479) rfl) rfl⟩
set_option maxRecDepth 50000 in
theorem kc_X2_takeAllAway : jcalV yX2_takeAllAway cX2_takeAllAway 1 none 0 := ⟨⟨lw_good_of (List.mem_of_getElem? (i := 294) rfl) rfl, lw_good_of (List.mem_of_getElem? (i := 65) rfl) rfl, by decide +kernel, by decide +kernel, by decide +kernel⟩, lw_good_of (List.mem_of_getElem? (i := 292) rfl) rfl, lw_good_of (List.mem_of_getElem? (i := 293) rfl) rfl⟩
set_option maxRecDepth 50000 in
theorem kc_X2_put : jcalV yX2_put cX2_put 8 none 5 := ⟨⟨lw_good_of (List.mem_of_getElem? (i := 445) rfl) rfl, lw_good_of (List.mem_of_getElem? (i := 65) rfl) rfl, by decide +kernel, by decide +kernel, by decide +kernel⟩, lw_good_of (List.mem_of_getElem? (i := 443) rfl) rfl, lw_good_of (List.mem_of_getElem? (i := 444) rfl) rfl⟩
set_option maxRecDepth 50000 in
theorem kc_X2_extentOf : jcalV yX2_extentOf cX2_extentOf 3 (some .int) 2 := ⟨⟨lw_good_of (List.mem_of_getElem? (i := 488) rfl) rfl, lw_good_of (List.mem_of_getElem? (i := 65) rfl) rfl, by decide +kernel, by decide +kernel, by decide +kernel⟩, lw_good_of (List.mem_of_getElem? (i := 486) rfl) rfl, lw_good_of (List.mem_of_getElem? (i := 487) rfl) rfl⟩
set_option maxRecDepth 50000 in
theorem kc_X2_overlapCount : jcalV yX2_overlapCount cX2_overlapCount 4 (some .int) 0 := ⟨⟨lw_good_of (List.mem_of_getElem? (i := 463) rfl) rfl, lw_good_of (List.mem_of_getElem? (i := 65) rfl) rfl, by decide +kernel, by decide +kernel, by decide +kernel⟩, lw_good_of (List.mem_of_getElem? (i := 461) rfl) rfl, lw_good_of (List.mem_of_getElem? (i := 462) rfl) rfl⟩
set_option maxRecDepth 50000 in
theorem kc_X2_firstGap : jcalV yX2_firstGap cX2_firstGap 4 (some .int) 2 := ⟨⟨lw_good_of (List.mem_of_getElem? (i := 471) rfl) rfl, lw_good_of (List.mem_of_getElem? (i := 65) rfl) rfl, by decide +kernel, by decide +kernel, by decide +kernel⟩, lw_good_of (List.mem_of_getElem? (i := 469) rfl) rfl, lw_good_of (List.mem_of_getElem? (i := 470) rfl) rfl⟩
set_option maxRecDepth 50000 in
theorem kc_X2_heldArea : jcalV yX2_heldArea cX2_heldArea 5 (some .int) 1 := ⟨⟨lw_good_of (List.mem_of_getElem? (i := 505) rfl) rfl, lw_good_of (List.mem_of_getElem? (i := 65) rfl) rfl, by decide +kernel, by decide +kernel, by decide +kernel⟩, lw_good_of (List.mem_of_getElem? (i := 503) rfl) rfl, lw_good_of (List.mem_of_getElem? (i := 504) rfl) rfl⟩
set_option maxRecDepth 50000 in
theorem kc_X2_commonLength : jcalV yX2_commonLength cX2_commonLength 6 (some .int) 3 := ⟨⟨lw_good_of (List.mem_of_getElem? (i := 510) rfl) rfl, lw_good_of (List.mem_of_getElem? (i := 65) rfl) rfl, by decide +kernel, by decide +kernel, by decide +kernel⟩, lw_good_of (List.mem_of_getElem? (i := 509) rfl) rfl, lw_good_of (List.mem_of_getElem? (i := 17) rfl) rfl⟩
set_option maxRecDepth 50000 in
theorem kc_X2_weightSum : jcalV yX2_weightSum cX2_weightSum 3 (some .int) 0 := ⟨⟨lw_good_of (List.mem_of_getElem? (i := 529) rfl) rfl, lw_good_of (List.mem_of_getElem? (i := 65) rfl) rfl, by decide +kernel, by decide +kernel, by decide +kernel⟩, lw_good_of (List.mem_of_getElem? (i := 527) rfl) rfl, lw_good_of (List.mem_of_getElem? (i := 528) rfl) rfl⟩
set_option maxRecDepth 50000 in
theorem kc_X2_doubledMoment : jcalV yX2_doubledMoment cX2_doubledMoment 5 (some .int) 1 := ⟨⟨lw_good_of (List.mem_of_getElem? (i := 525) rfl) rfl, lw_good_of (List.mem_of_getElem? (i := 65) rfl) rfl, by decide +kernel, by decide +kernel, by decide +kernel⟩, lw_good_of (List.mem_of_getElem? (i := 523) rfl) rfl, lw_good_of (List.mem_of_getElem? (i := 524) rfl) rfl⟩
set_option maxRecDepth 50000 in
theorem kc_X3_restart : jcalV yX3_restart cX3_restart 3 none 0 := ⟨⟨lw_good_of (List.mem_of_getElem? (i := 260) rfl) rfl, lw_good_of (List.mem_of_getElem? (i := 64) rfl) rfl, by decide +kernel, by decide +kernel, by decide +kernel⟩, lw_good_of (List.mem_of_getElem? (i := 258) rfl) rfl, lw_good_of (List.mem_of_getElem? (i := 259) rfl) rfl⟩
set_option maxRecDepth 50000 in
theorem kc_X3_orderBoxes : jcalV yX3_orderBoxes cX3_orderBoxes 3 none 0 := ⟨⟨lw_good_of (List.mem_of_getElem? (i := 264) rfl) rfl, lw_good_of (List.mem_of_getElem? (i := 64) rfl) rfl, by decide +kernel, by decide +kernel, by decide +kernel⟩, lw_good_of (List.mem_of_getElem? (i := 263) rfl) rfl, lw_good_of (List.mem_of_getElem? (i := 1) rfl) rfl⟩
set_option maxRecDepth 50000 in
theorem kc_X3_sumsOfOthers : jcalV yX3_sumsOfOthers cX3_sumsOfOthers 6 (some .int) 2 := ⟨⟨lw_good_of (List.mem_of_getElem? (i := 272) rfl) rfl, lw_good_of (List.mem_of_getElem? (i := 64) rfl) rfl, by decide +kernel, by decide +kernel, by decide +kernel⟩, lw_good_of (List.mem_of_getElem? (i := 271) rfl) rfl, lw_good_of (List.mem_of_getElem? (i := 2) rfl) rfl⟩
set_option maxRecDepth 50000 in
theorem kc_X3_withExtents : jcalV yX3_withExtents cX3_withExtents 6 (some .int) 3 := ⟨⟨lw_good_of (List.mem_of_getElem? (i := 276) rfl) rfl, lw_good_of (List.mem_of_getElem? (i := 64) rfl) rfl, by decide +kernel, by decide +kernel, by decide +kernel⟩, lw_good_of (List.mem_of_getElem? (i := 275) rfl) rfl, lw_good_of (List.mem_of_getElem? (i := 3) rfl) rfl⟩
set_option maxRecDepth 50000 in
theorem kc_X3_coordinateCount : jcalV yX3_coordinateCount cX3_coordinateCount 3 (some .int) 2 := ⟨⟨lw_good_of (List.mem_of_getElem? (i := 437) rfl) rfl, lw_good_of (List.mem_of_getElem? (i := 64) rfl) rfl, by decide +kernel, by decide +kernel, by decide +kernel⟩, lw_good_of (List.mem_of_getElem? (i := 435) rfl) rfl, lw_good_of (List.mem_of_getElem? (i := 436) rfl) rfl⟩
set_option maxRecDepth 50000 in
theorem kc_X3_wayCount : jcalV yX3_wayCount cX3_wayCount 4 (some .int) 1 := ⟨⟨lw_good_of (List.mem_of_getElem? (i := 433) rfl) rfl, lw_good_of (List.mem_of_getElem? (i := 64) rfl) rfl, by decide +kernel, by decide +kernel, by decide +kernel⟩, lw_good_of (List.mem_of_getElem? (i := 431) rfl) rfl, lw_good_of (List.mem_of_getElem? (i := 432) rfl) rfl⟩
set_option maxRecDepth 50000 in
theorem kc_X3_wayCoordinates : jcalV yX3_wayCoordinates cX3_wayCoordinates 5 (some .int) 3 := ⟨⟨lw_good_of (List.mem_of_getElem? (i := 410) rfl) rfl, lw_good_of (List.mem_of_getElem? (i := 64) rfl) rfl, by decide +kernel, by decide +kernel, by decide +kernel⟩, lw_good_of (List.mem_of_getElem? (i := 409) rfl) rfl, lw_good_of (List.mem_of_getElem? (i := 12) rfl) rfl⟩
set_option maxRecDepth 50000 in
theorem kc_X3_goOn : jcalV yX3_goOn cX3_goOn 3 (some .int) 1 := ⟨⟨lw_good_of (List.mem_of_getElem? (i := 353) rfl) rfl, lw_good_of (List.mem_of_getElem? (i := 64) rfl) rfl, by decide +kernel, by decide +kernel, by decide +kernel⟩, lw_good_of (List.mem_of_getElem? (i := 351) rfl) rfl, lw_good_of (List.mem_of_getElem? (i := 352) rfl) rfl⟩
set_option maxRecDepth 50000 in
theorem kc_X3_enter : jcalV yX3_enter cX3_enter 2 none 1 := ⟨⟨lw_good_of (List.mem_of_getElem? (i := 290) rfl) rfl, lw_good_of (List.mem_of_getElem? (i := 64) rfl) rfl, by decide +kernel, by decide +kernel, by decide +kernel⟩, lw_good_of (List.mem_of_getElem? (i := 289) rfl) rfl, lw_good_of (List.mem_of_getElem? (i := 4) rfl) rfl⟩
set_option maxRecDepth 50000 in
theorem kc_X3_goBack : jcalV yX3_goBack cX3_goBack 1 none 0 := ⟨⟨lw_good_of (List.mem_of_getElem? (i := 425) rfl) rfl, lw_good_of (List.mem_of_getElem? (i := 64) rfl) rfl, by decide +kernel, by decide +kernel, by decide +kernel⟩, lw_good_of (List.mem_of_getElem? (i := 424) rfl) rfl, lw_good_of (List.mem_of_getElem? (i := 15) rfl) rfl⟩
set_option maxRecDepth 50000 in
theorem kc_X3_nextRow : jcalV yX3_nextRow cX3_nextRow 1 (some .boolean) 0 := ⟨⟨lw_good_of (List.mem_of_getElem? (i := 384) rfl) rfl, lw_good_of (List.mem_of_getElem? (i := 64) rfl) rfl, by decide +kernel, by decide +kernel, by decide +kernel⟩, lw_good_of (List.mem_of_getElem? (i := 383) rfl) rfl, lw_good_of (List.mem_of_getElem? (i := 9) rfl) rfl⟩
set_option maxRecDepth 50000 in
theorem kc_X3_nextLayer : jcalV yX3_nextLayer cX3_nextLayer 1 none 0 := ⟨⟨lw_good_of (List.mem_of_getElem? (i := 414) rfl) rfl, lw_good_of (List.mem_of_getElem? (i := 64) rfl) rfl, by decide +kernel, by decide +kernel, by decide +kernel⟩, lw_good_of (List.mem_of_getElem? (i := 413) rfl) rfl, lw_good_of (List.mem_of_getElem? (i := 13) rfl) rfl⟩
set_option maxRecDepth 50000 in
theorem kc_X3_nextTurn : jcalV yX3_nextTurn cX3_nextTurn 3 none 0 := ⟨⟨lw_good_of (List.mem_of_getElem? (i := 388) rfl) rfl, lw_good_of (List.mem_of_getElem? (i := 64) rfl) rfl, by decide +kernel, by decide +kernel, by decide +kernel⟩, lw_good_of (List.mem_of_getElem? (i := 387) rfl) rfl, lw_good_of (List.mem_of_getElem? (i := 10) rfl) rfl⟩
set_option maxRecDepth 50000 in
theorem kc_X3_turnTo : jcalV yX3_turnTo cX3_turnTo 4 none 2 := ⟨⟨lw_good_of (List.mem_of_getElem? (i := 406) rfl) rfl, lw_good_of (List.mem_of_getElem? (i := 64) rfl) rfl, by decide +kernel, by decide +kernel, by decide +kernel⟩, lw_good_of (List.mem_of_getElem? (i := 405) rfl) rfl, lw_good_of (List.mem_of_getElem? (i := 11) rfl) rfl⟩
set_option maxRecDepth 50000 in
theorem kc_X3_setAxis : jcalV yX3_setAxis cX3_setAxis 4 none 2 := ⟨⟨lw_good_of (List.mem_of_getElem? (i := 380) rfl) rfl, lw_good_of (List.mem_of_getElem? (i := 64) rfl) rfl, by decide +kernel, by decide +kernel, by decide +kernel⟩, lw_good_of (List.mem_of_getElem? (i := 379) rfl) rfl, lw_good_of (List.mem_of_getElem? (i := 8) rfl) rfl⟩
set_option maxRecDepth 50000 in
theorem kc_X3_blockedInRow : jcalV yX3_blockedInRow cX3_blockedInRow 5 (some .int) 0 := ⟨⟨lw_good_of (List.mem_of_getElem? (i := 418) rfl) rfl, lw_good_of (List.mem_of_getElem? (i := 64) rfl) rfl, by decide +kernel, by decide +kernel, by decide +kernel⟩, lw_good_of (List.mem_of_getElem? (i := 417) rfl) rfl, lw_good_of (List.mem_of_getElem? (i := 14) rfl) rfl⟩
set_option maxRecDepth 50000 in
theorem kc_X3_lookAlongRow : jcalV yX3_lookAlongRow cX3_lookAlongRow 4 none 0 := ⟨⟨lw_good_of (List.mem_of_getElem? (i := 358) rfl) rfl, lw_good_of (List.mem_of_getElem? (i := 64) rfl) rfl, by decide +kernel, by decide +kernel, by decide +kernel⟩, lw_good_of (List.mem_of_getElem? (i := 357) rfl) rfl, lw_good_of (List.mem_of_getElem? (i := 5) rfl) rfl⟩
set_option maxRecDepth 50000 in
theorem kc_X3_lookAtBlocked : jcalV yX3_lookAtBlocked cX3_lookAtBlocked 2 none 0 := ⟨⟨lw_good_of (List.mem_of_getElem? (i := 368) rfl) rfl, lw_good_of (List.mem_of_getElem? (i := 64) rfl) rfl, by decide +kernel, by decide +kernel, by decide +kernel⟩, lw_good_of (List.mem_of_getElem? (i := 367) rfl) rfl, lw_good_of (List.mem_of_getElem? (i := 6) rfl) rfl⟩
set_option maxRecDepth 50000 in
theorem kc_X3_take : jcalV yX3_take cX3_take 2 none 1 := ⟨⟨lw_good_of (List.mem_of_getElem? (i := 376) rfl) rfl, lw_good_of (List.mem_of_getElem? (i := 64) rfl) rfl, by decide +kernel, by decide +kernel, by decide +kernel⟩, lw_good_of (List.mem_of_getElem? (i := 375) rfl) rfl, lw_good_of (List.mem_of_getElem? (i := 7) rfl) rfl⟩
set_option maxRecDepth 50000 in
theorem kc_X4_append : jcalV yX4_append cX4_append 4 none 3 := ⟨⟨lw_good_of (List.mem_of_getElem? (i := 329) rfl) rfl, lw_good_of (List.mem_of_getElem? (i := 63) rfl) rfl, by decide +kernel, by decide +kernel, by decide +kernel⟩, lw_good_of (List.mem_of_getElem? (i := 327) rfl) rfl, lw_good_of (List.mem_of_getElem? (i := 328) rfl) rfl⟩
set_option maxRecDepth 50000 in
theorem kc_X4_isBox : jcalV yX4_isBox cX4_isBox 2 (some .boolean) 1 := ⟨⟨lw_good_of (List.mem_of_getElem? (i := 337) rfl) rfl, lw_good_of (List.mem_of_getElem? (i := 63) rfl) rfl, by decide +kernel, by decide +kernel, by decide +kernel⟩, lw_good_of (List.mem_of_getElem? (i := 335) rfl) rfl, lw_good_of (List.mem_of_getElem? (i := 336) rfl) rfl⟩
set_option maxRecDepth 50000 in
theorem kc_X4_allBoxes : jcalV yX4_allBoxes cX4_allBoxes 1 (some .int) 0 := ⟨⟨lw_good_of (List.mem_of_getElem? (i := 607) rfl) rfl, lw_good_of (List.mem_of_getElem? (i := 63) rfl) rfl, by decide +kernel, by decide +kernel, by decide +kernel⟩, lw_good_of (List.mem_of_getElem? (i := 605) rfl) rfl, lw_good_of (List.mem_of_getElem? (i := 606) rfl) rfl⟩
set_option maxRecDepth 50000 in
theorem kc_X4_extent : jcalV yX4_extent cX4_extent 4 (some .int) 3 := ⟨⟨lw_good_of (List.mem_of_getElem? (i := 284) rfl) rfl, lw_good_of (List.mem_of_getElem? (i := 63) rfl) rfl, by decide +kernel, by decide +kernel, by decide +kernel⟩, lw_good_of (List.mem_of_getElem? (i := 282) rfl) rfl, lw_good_of (List.mem_of_getElem? (i := 283) rfl) rfl⟩
set_option maxRecDepth 50000 in
theorem kc_X4_volume : jcalV yX4_volume cX4_volume 2 (some .int) 1 := ⟨⟨lw_good_of (List.mem_of_getElem? (i := 268) rfl) rfl, lw_good_of (List.mem_of_getElem? (i := 63) rfl) rfl, by decide +kernel, by decide +kernel, by decide +kernel⟩, lw_good_of (List.mem_of_getElem? (i := 266) rfl) rfl, lw_good_of (List.mem_of_getElem? (i := 267) rfl) rfl⟩
set_option maxRecDepth 50000 in
theorem kc_X4_hasTurn : jcalV yX4_hasTurn cX4_hasTurn 3 (some .boolean) 2 := ⟨⟨lw_good_of (List.mem_of_getElem? (i := 280) rfl) rfl, lw_good_of (List.mem_of_getElem? (i := 63) rfl) rfl, by decide +kernel, by decide +kernel, by decide +kernel⟩, lw_good_of (List.mem_of_getElem? (i := 278) rfl) rfl, lw_good_of (List.mem_of_getElem? (i := 279) rfl) rfl⟩
set_option maxRecDepth 50000 in
theorem kc_X4_sameExtents : jcalV yX4_sameExtents cX4_sameExtents 4 (some .boolean) 3 := ⟨⟨lw_good_of (List.mem_of_getElem? (i := 402) rfl) rfl, lw_good_of (List.mem_of_getElem? (i := 63) rfl) rfl, by decide +kernel, by decide +kernel, by decide +kernel⟩, lw_good_of (List.mem_of_getElem? (i := 400) rfl) rfl, lw_good_of (List.mem_of_getElem? (i := 401) rfl) rfl⟩
set_option maxRecDepth 50000 in
theorem kc_X4_isShort : jcalV yX4_isShort cX4_isShort 3 (some .boolean) 2 := ⟨⟨lw_good_of (List.mem_of_getElem? (i := 397) rfl) rfl, lw_good_of (List.mem_of_getElem? (i := 63) rfl) rfl, by decide +kernel, by decide +kernel, by decide +kernel⟩, lw_good_of (List.mem_of_getElem? (i := 395) rfl) rfl, lw_good_of (List.mem_of_getElem? (i := 396) rfl) rfl⟩
set_option maxRecDepth 50000 in
theorem kc_X4_counts : jcalV yX4_counts cX4_counts 4 (some .boolean) 2 := ⟨⟨lw_good_of (List.mem_of_getElem? (i := 392) rfl) rfl, lw_good_of (List.mem_of_getElem? (i := 63) rfl) rfl, by decide +kernel, by decide +kernel, by decide +kernel⟩, lw_good_of (List.mem_of_getElem? (i := 390) rfl) rfl, lw_good_of (List.mem_of_getElem? (i := 391) rfl) rfl⟩
set_option maxRecDepth 50000 in
theorem kc_X4_isPlace : jcalV yX4_isPlace cX4_isPlace 6 (some .boolean) 5 := ⟨⟨lw_good_of (List.mem_of_getElem? (i := 454) rfl) rfl, lw_good_of (List.mem_of_getElem? (i := 63) rfl) rfl, by decide +kernel, by decide +kernel, by decide +kernel⟩, lw_good_of (List.mem_of_getElem? (i := 452) rfl) rfl, lw_good_of (List.mem_of_getElem? (i := 453) rfl) rfl⟩
set_option maxRecDepth 50000 in
theorem kc_X4_liesWithin : jcalV yX4_liesWithin cX4_liesWithin 4 (some .boolean) 3 := ⟨⟨lw_good_of (List.mem_of_getElem? (i := 459) rfl) rfl, lw_good_of (List.mem_of_getElem? (i := 63) rfl) rfl, by decide +kernel, by decide +kernel, by decide +kernel⟩, lw_good_of (List.mem_of_getElem? (i := 458) rfl) rfl, lw_good_of (List.mem_of_getElem? (i := 16) rfl) rfl⟩
set_option maxRecDepth 50000 in
theorem kc_X4_hasRoomBeside : jcalV yX4_hasRoomBeside cX4_hasRoomBeside 11 (some .boolean) 6 := ⟨⟨lw_good_of (List.mem_of_getElem? (i := 665) rfl) rfl, lw_good_of (List.mem_of_getElem? (i := 63) rfl) rfl, by decide +kernel, by decide +kernel, by decide +kernel⟩, lw_good_of (List.mem_of_getElem? (i := 663) rfl) rfl, lw_good_of (List.mem_of_getElem? (i := 664) rfl) rfl⟩
set_option maxRecDepth 50000 in
theorem kc_X5_bin : jcalV yX5_bin cX5_bin 4 (some .int) 3 := ⟨⟨lw_good_of (List.mem_of_getElem? (i := 318) rfl) rfl, lw_good_of (List.mem_of_getElem? (i := 62) rfl) rfl, by decide +kernel, by decide +kernel, by decide +kernel⟩, lw_good_of (List.mem_of_getElem? (i := 316) rfl) rfl, lw_good_of (List.mem_of_getElem? (i := 317) rfl) rfl⟩
set_option maxRecDepth 50000 in
theorem kc_X5_box : jcalV yX5_box cX5_box 5 (some .int) 3 := ⟨⟨lw_good_of (List.mem_of_getElem? (i := 325) rfl) rfl, lw_good_of (List.mem_of_getElem? (i := 62) rfl) rfl, by decide +kernel, by decide +kernel, by decide +kernel⟩, lw_good_of (List.mem_of_getElem? (i := 323) rfl) rfl, lw_good_of (List.mem_of_getElem? (i := 324) rfl) rfl⟩
set_option maxRecDepth 50000 in
theorem kc_X5_turns : jcalV yX5_turns cX5_turns 4 (some .int) 2 := ⟨⟨lw_good_of (List.mem_of_getElem? (i := 333) rfl) rfl, lw_good_of (List.mem_of_getElem? (i := 62) rfl) rfl, by decide +kernel, by decide +kernel, by decide +kernel⟩, lw_good_of (List.mem_of_getElem? (i := 331) rfl) rfl, lw_good_of (List.mem_of_getElem? (i := 332) rfl) rfl⟩
set_option maxRecDepth 50000 in
theorem kc_X5_weight : jcalV yX5_weight cX5_weight 4 (some .int) 2 := ⟨⟨lw_good_of (List.mem_of_getElem? (i := 341) rfl) rfl, lw_good_of (List.mem_of_getElem? (i := 62) rfl) rfl, by decide +kernel, by decide +kernel, by decide +kernel⟩, lw_good_of (List.mem_of_getElem? (i := 339) rfl) rfl, lw_good_of (List.mem_of_getElem? (i := 340) rfl) rfl⟩
set_option maxRecDepth 50000 in
theorem kc_X5_clear : jcalV yX5_clear cX5_clear 2 (some .int) 0 := ⟨⟨lw_good_of (List.mem_of_getElem? (i := 345) rfl) rfl, lw_good_of (List.mem_of_getElem? (i := 62) rfl) rfl, by decide +kernel, by decide +kernel, by decide +kernel⟩, lw_good_of (List.mem_of_getElem? (i := 343) rfl) rfl, lw_good_of (List.mem_of_getElem? (i := 344) rfl) rfl⟩
set_option maxRecDepth 50000 in
theorem kc_X5_run : jcalV yX5_run cX5_run 2 (some .int) 1 := ⟨⟨lw_good_of (List.mem_of_getElem? (i := 349) rfl) rfl, lw_good_of (List.mem_of_getElem? (i := 62) rfl) rfl, by decide +kernel, by decide +kernel, by decide +kernel⟩, lw_good_of (List.mem_of_getElem? (i := 347) rfl) rfl, lw_good_of (List.mem_of_getElem? (i := 348) rfl) rfl⟩
set_option maxRecDepth 50000 in
theorem kc_X5_told : jcalV yX5_told cX5_told 3 (some .int) 2 := ⟨⟨lw_good_of (List.mem_of_getElem? (i := 429) rfl) rfl, lw_good_of (List.mem_of_getElem? (i := 62) rfl) rfl, by decide +kernel, by decide +kernel, by decide +kernel⟩, lw_good_of (List.mem_of_getElem? (i := 427) rfl) rfl, lw_good_of (List.mem_of_getElem? (i := 428) rfl) rfl⟩
set_option maxRecDepth 50000 in
theorem kc_X5_plan : jcalV yX5_plan cX5_plan 3 (some .int) 0 := ⟨⟨lw_good_of (List.mem_of_getElem? (i := 441) rfl) rfl, lw_good_of (List.mem_of_getElem? (i := 62) rfl) rfl, by decide +kernel, by decide +kernel, by decide +kernel⟩, lw_good_of (List.mem_of_getElem? (i := 439) rfl) rfl, lw_good_of (List.mem_of_getElem? (i := 440) rfl) rfl⟩
set_option maxRecDepth 50000 in
theorem kc_X5_lay : jcalV yX5_lay cX5_lay 6 (some .int) 5 := ⟨⟨lw_good_of (List.mem_of_getElem? (i := 450) rfl) rfl, lw_good_of (List.mem_of_getElem? (i := 62) rfl) rfl, by decide +kernel, by decide +kernel, by decide +kernel⟩, lw_good_of (List.mem_of_getElem? (i := 448) rfl) rfl, lw_good_of (List.mem_of_getElem? (i := 449) rfl) rfl⟩
set_option maxRecDepth 50000 in
theorem kc_X5_lift : jcalV yX5_lift cX5_lift 2 (some .int) 1 := ⟨⟨lw_good_of (List.mem_of_getElem? (i := 475) rfl) rfl, lw_good_of (List.mem_of_getElem? (i := 62) rfl) rfl, by decide +kernel, by decide +kernel, by decide +kernel⟩, lw_good_of (List.mem_of_getElem? (i := 473) rfl) rfl, lw_good_of (List.mem_of_getElem? (i := 474) rfl) rfl⟩
set_option maxRecDepth 50000 in
theorem kc_X5_place : jcalV yX5_place cX5_place 3 (some .int) 2 := ⟨⟨lw_good_of (List.mem_of_getElem? (i := 484) rfl) rfl, lw_good_of (List.mem_of_getElem? (i := 62) rfl) rfl, by decide +kernel, by decide +kernel, by decide +kernel⟩, lw_good_of (List.mem_of_getElem? (i := 482) rfl) rfl, lw_good_of (List.mem_of_getElem? (i := 483) rfl) rfl⟩
set_option maxRecDepth 50000 in
theorem kc_X5_overlaps : jcalV yX5_overlaps cX5_overlaps 1 (some .int) 0 := ⟨⟨lw_good_of (List.mem_of_getElem? (i := 492) rfl) rfl, lw_good_of (List.mem_of_getElem? (i := 62) rfl) rfl, by decide +kernel, by decide +kernel, by decide +kernel⟩, lw_good_of (List.mem_of_getElem? (i := 490) rfl) rfl, lw_good_of (List.mem_of_getElem? (i := 491) rfl) rfl⟩
set_option maxRecDepth 50000 in
theorem kc_X5_relative : jcalV yX5_relative cX5_relative 3 (some .int) 2 := ⟨⟨lw_good_of (List.mem_of_getElem? (i := 496) rfl) rfl, lw_good_of (List.mem_of_getElem? (i := 62) rfl) rfl, by decide +kernel, by decide +kernel, by decide +kernel⟩, lw_good_of (List.mem_of_getElem? (i := 494) rfl) rfl, lw_good_of (List.mem_of_getElem? (i := 495) rfl) rfl⟩
set_option maxRecDepth 50000 in
theorem kc_X5_support : jcalV yX5_support cX5_support 2 (some .int) 1 := ⟨⟨lw_good_of (List.mem_of_getElem? (i := 501) rfl) rfl, lw_good_of (List.mem_of_getElem? (i := 62) rfl) rfl, by decide +kernel, by decide +kernel, by decide +kernel⟩, lw_good_of (List.mem_of_getElem? (i := 499) rfl) rfl, lw_good_of (List.mem_of_getElem? (i := 500) rfl) rfl⟩
set_option maxRecDepth 50000 in
theorem kc_X5_centre : jcalV yX5_centre cX5_centre 6 (some .int) 2 := ⟨⟨lw_good_of (List.mem_of_getElem? (i := 518) rfl) rfl, lw_good_of (List.mem_of_getElem? (i := 62) rfl) rfl, by decide +kernel, by decide +kernel, by decide +kernel⟩, lw_good_of (List.mem_of_getElem? (i := 516) rfl) rfl, lw_good_of (List.mem_of_getElem? (i := 517) rfl) rfl⟩
set_option maxRecDepth 50000 in
theorem kc_X5_tree : jcalV yX5_tree cX5_tree 1 (some .int) 0 := ⟨⟨lw_good_of (List.mem_of_getElem? (i := 536) rfl) rfl, lw_good_of (List.mem_of_getElem? (i := 62) rfl) rfl, by decide +kernel, by decide +kernel, by decide +kernel⟩, lw_good_of (List.mem_of_getElem? (i := 534) rfl) rfl, lw_good_of (List.mem_of_getElem? (i := 535) rfl) rfl⟩
set_option maxRecDepth 50000 in
theorem kc_X5_node : jcalV yX5_node cX5_node 3 (some .int) 2 := ⟨⟨lw_good_of (List.mem_of_getElem? (i := 564) rfl) rfl, lw_good_of (List.mem_of_getElem? (i := 62) rfl) rfl, by decide +kernel, by decide +kernel, by decide +kernel⟩, lw_good_of (List.mem_of_getElem? (i := 562) rfl) rfl, lw_good_of (List.mem_of_getElem? (i := 563) rfl) rfl⟩
set_option maxRecDepth 50000 in
theorem kc_X5_dual : jcalV yX5_dual cX5_dual 4 (some .int) 3 := ⟨⟨lw_good_of (List.mem_of_getElem? (i := 568) rfl) rfl, lw_good_of (List.mem_of_getElem? (i := 62) rfl) rfl, by decide +kernel, by decide +kernel, by decide +kernel⟩, lw_good_of (List.mem_of_getElem? (i := 566) rfl) rfl, lw_good_of (List.mem_of_getElem? (i := 567) rfl) rfl⟩
set_option maxRecDepth 50000 in
theorem kc_X5_need : jcalV yX5_need cX5_need 5 (some .long) 4 := ⟨⟨lw_good_of (List.mem_of_getElem? (i := 583) rfl) rfl, lw_good_of (List.mem_of_getElem? (i := 62) rfl) rfl, by decide +kernel, by decide +kernel, by decide +kernel⟩, lw_good_of (List.mem_of_getElem? (i := 581) rfl) rfl, lw_good_of (List.mem_of_getElem? (i := 582) rfl) rfl⟩
set_option maxRecDepth 50000 in
theorem kc_X5_proof : jcalV yX5_proof cX5_proof 2 (some .int) 1 := ⟨⟨lw_good_of (List.mem_of_getElem? (i := 621) rfl) rfl, lw_good_of (List.mem_of_getElem? (i := 62) rfl) rfl, by decide +kernel, by decide +kernel, by decide +kernel⟩, lw_good_of (List.mem_of_getElem? (i := 619) rfl) rfl, lw_good_of (List.mem_of_getElem? (i := 620) rfl) rfl⟩
set_option maxRecDepth 50000 in
theorem kc_X5_none : jcalV yX5_none cX5_none 7 (some .int) 5 := ⟨⟨lw_good_of (List.mem_of_getElem? (i := 661) rfl) rfl, lw_good_of (List.mem_of_getElem? (i := 62) rfl) rfl, by decide +kernel, by decide +kernel, by decide +kernel⟩, lw_good_of (List.mem_of_getElem? (i := 659) rfl) rfl, lw_good_of (List.mem_of_getElem? (i := 660) rfl) rfl⟩
set_option maxRecDepth 50000 in
theorem kc_X5_beginAnew : jcalV yX5_beginAnew cX5_beginAnew 1 none 0 := ⟨⟨lw_good_of (List.mem_of_getElem? (i := 256) rfl) rfl, lw_good_of (List.mem_of_getElem? (i := 62) rfl) rfl, by decide +kernel, by decide +kernel, by decide +kernel⟩, lw_good_of (List.mem_of_getElem? (i := 255) rfl) rfl, lw_good_of (List.mem_of_getElem? (i := 0) rfl) rfl⟩
set_option maxRecDepth 50000 in
theorem kc_X5_isLength : jcalS yX5_isLength cX5_isLength 1 (some .boolean) 1 := ⟨⟨lw_good_of (List.mem_of_getElem? (i := 321) rfl) rfl, lw_good_of (List.mem_of_getElem? (i := 62) rfl) rfl, by decide +kernel, by decide +kernel, by decide +kernel⟩, lw_good_of (List.mem_of_getElem? (i := 320) rfl) rfl⟩
set_option maxRecDepth 50000 in
theorem kc_X5_isAxis : jcalS yX5_isAxis cX5_isAxis 1 (some .boolean) 1 := ⟨⟨lw_good_of (List.mem_of_getElem? (i := 521) rfl) rfl, lw_good_of (List.mem_of_getElem? (i := 62) rfl) rfl, by decide +kernel, by decide +kernel, by decide +kernel⟩, lw_good_of (List.mem_of_getElem? (i := 520) rfl) rfl⟩
set_option maxRecDepth 50000 in
theorem kc_X5_lowest : jcalS yX5_lowest cX5_lowest 1 (some .int) 1 := ⟨⟨lw_good_of (List.mem_of_getElem? (i := 371) rfl) rfl, lw_good_of (List.mem_of_getElem? (i := 62) rfl) rfl, by decide +kernel, by decide +kernel, by decide +kernel⟩, lw_good_of (List.mem_of_getElem? (i := 370) rfl) rfl⟩
set_option maxRecDepth 50000 in
theorem kc_X5_commonDivisor : jcalS yX5_commonDivisor cX5_commonDivisor 6 (some .int) 2 := ⟨⟨lw_good_of (List.mem_of_getElem? (i := 532) rfl) rfl, lw_good_of (List.mem_of_getElem? (i := 62) rfl) rfl, by decide +kernel, by decide +kernel, by decide +kernel⟩, lw_good_of (List.mem_of_getElem? (i := 531) rfl) rfl⟩
set_option maxRecDepth 50000 in
theorem kc_X6_sideOf : jcalS yX6_sideOf cX6_sideOf 3 (some .int) 2 := ⟨⟨lw_good_of (List.mem_of_getElem? (i := 696) rfl) rfl, lw_good_of (List.mem_of_getElem? (i := 68) rfl) rfl, by decide +kernel, by decide +kernel, by decide +kernel⟩, lw_good_of (List.mem_of_getElem? (i := 695) rfl) rfl⟩
set_option maxRecDepth 50000 in
theorem kc_X6_extent : jcalV yX6_extent cX6_extent 4 (some .int) 3 := ⟨⟨lw_good_of (List.mem_of_getElem? (i := 693) rfl) rfl, lw_good_of (List.mem_of_getElem? (i := 68) rfl) rfl, by decide +kernel, by decide +kernel, by decide +kernel⟩, lw_good_of (List.mem_of_getElem? (i := 692) rfl) rfl, lw_good_of (List.mem_of_getElem? (i := 36) rfl) rfl⟩
set_option maxRecDepth 50000 in
theorem kc_X6_has : jcalV yX6_has cX6_has 3 (some .boolean) 2 := ⟨⟨lw_good_of (List.mem_of_getElem? (i := 689) rfl) rfl, lw_good_of (List.mem_of_getElem? (i := 68) rfl) rfl, by decide +kernel, by decide +kernel, by decide +kernel⟩, lw_good_of (List.mem_of_getElem? (i := 688) rfl) rfl, lw_good_of (List.mem_of_getElem? (i := 35) rfl) rfl⟩
set_option maxRecDepth 50000 in
theorem kc_X6_anew : jcalV yX6_anew cX6_anew 4 none 0 := ⟨⟨lw_good_of (List.mem_of_getElem? (i := 677) rfl) rfl, lw_good_of (List.mem_of_getElem? (i := 68) rfl) rfl, by decide +kernel, by decide +kernel, by decide +kernel⟩, lw_good_of (List.mem_of_getElem? (i := 676) rfl) rfl, lw_good_of (List.mem_of_getElem? (i := 32) rfl) rfl⟩
set_option maxRecDepth 50000 in
theorem kc_X6_volume : jcalV yX6_volume cX6_volume 2 (some .int) 1 := ⟨⟨lw_good_of (List.mem_of_getElem? (i := 681) rfl) rfl, lw_good_of (List.mem_of_getElem? (i := 68) rfl) rfl, by decide +kernel, by decide +kernel, by decide +kernel⟩, lw_good_of (List.mem_of_getElem? (i := 680) rfl) rfl, lw_good_of (List.mem_of_getElem? (i := 33) rfl) rfl⟩
set_option maxRecDepth 50000 in
theorem kc_X6_isSum : jcalV yX6_isSum cX6_isSum 4 (some .boolean) 3 := ⟨⟨lw_good_of (List.mem_of_getElem? (i := 704) rfl) rfl, lw_good_of (List.mem_of_getElem? (i := 68) rfl) rfl, by decide +kernel, by decide +kernel, by decide +kernel⟩, lw_good_of (List.mem_of_getElem? (i := 703) rfl) rfl, lw_good_of (List.mem_of_getElem? (i := 38) rfl) rfl⟩
set_option maxRecDepth 50000 in
theorem kc_X6_sum : jcalV yX6_sum cX6_sum 9 none 2 := ⟨⟨lw_good_of (List.mem_of_getElem? (i := 685) rfl) rfl, lw_good_of (List.mem_of_getElem? (i := 68) rfl) rfl, by decide +kernel, by decide +kernel, by decide +kernel⟩, lw_good_of (List.mem_of_getElem? (i := 684) rfl) rfl, lw_good_of (List.mem_of_getElem? (i := 34) rfl) rfl⟩
set_option maxRecDepth 50000 in
theorem kc_X6_isFirst : jcalV yX6_isFirst cX6_isFirst 5 (some .boolean) 2 := ⟨⟨lw_good_of (List.mem_of_getElem? (i := 708) rfl) rfl, lw_good_of (List.mem_of_getElem? (i := 68) rfl) rfl, by decide +kernel, by decide +kernel, by decide +kernel⟩, lw_good_of (List.mem_of_getElem? (i := 707) rfl) rfl, lw_good_of (List.mem_of_getElem? (i := 39) rfl) rfl⟩
set_option maxRecDepth 50000 in
theorem kc_X6_many : jcalV yX6_many cX6_many 4 (some .int) 3 := ⟨⟨lw_good_of (List.mem_of_getElem? (i := 712) rfl) rfl, lw_good_of (List.mem_of_getElem? (i := 68) rfl) rfl, by decide +kernel, by decide +kernel, by decide +kernel⟩, lw_good_of (List.mem_of_getElem? (i := 711) rfl) rfl, lw_good_of (List.mem_of_getElem? (i := 40) rfl) rfl⟩
set_option maxRecDepth 50000 in
theorem kc_X6_waysOf : jcalV yX6_waysOf cX6_waysOf 3 (some .int) 2 := ⟨⟨lw_good_of (List.mem_of_getElem? (i := 807) rfl) rfl, lw_good_of (List.mem_of_getElem? (i := 68) rfl) rfl, by decide +kernel, by decide +kernel, by decide +kernel⟩, lw_good_of (List.mem_of_getElem? (i := 806) rfl) rfl, lw_good_of (List.mem_of_getElem? (i := 42) rfl) rfl⟩
set_option maxRecDepth 50000 in
theorem kc_X6_counted : jcalV yX6_counted cX6_counted 6 (some .int) 3 := ⟨⟨lw_good_of (List.mem_of_getElem? (i := 700) rfl) rfl, lw_good_of (List.mem_of_getElem? (i := 68) rfl) rfl, by decide +kernel, by decide +kernel, by decide +kernel⟩, lw_good_of (List.mem_of_getElem? (i := 699) rfl) rfl, lw_good_of (List.mem_of_getElem? (i := 37) rfl) rfl⟩
set_option maxRecDepth 50000 in
theorem kc_X6_ways : jcalV yX6_ways cX6_ways 4 (some .int) 1 := ⟨⟨lw_good_of (List.mem_of_getElem? (i := 803) rfl) rfl, lw_good_of (List.mem_of_getElem? (i := 68) rfl) rfl, by decide +kernel, by decide +kernel, by decide +kernel⟩, lw_good_of (List.mem_of_getElem? (i := 802) rfl) rfl, lw_good_of (List.mem_of_getElem? (i := 41) rfl) rfl⟩
set_option maxRecDepth 50000 in
theorem kc_X6_coordinate : jcalV yX6_coordinate cX6_coordinate 6 (some .int) 3 := ⟨⟨lw_good_of (List.mem_of_getElem? (i := 815) rfl) rfl, lw_good_of (List.mem_of_getElem? (i := 68) rfl) rfl, by decide +kernel, by decide +kernel, by decide +kernel⟩, lw_good_of (List.mem_of_getElem? (i := 814) rfl) rfl, lw_good_of (List.mem_of_getElem? (i := 44) rfl) rfl⟩
set_option maxRecDepth 50000 in
theorem kc_X6_goes : jcalV yX6_goes cX6_goes 7 none 2 := ⟨⟨lw_good_of (List.mem_of_getElem? (i := 811) rfl) rfl, lw_good_of (List.mem_of_getElem? (i := 68) rfl) rfl, by decide +kernel, by decide +kernel, by decide +kernel⟩, lw_good_of (List.mem_of_getElem? (i := 810) rfl) rfl, lw_good_of (List.mem_of_getElem? (i := 43) rfl) rfl⟩
set_option maxRecDepth 50000 in
theorem kc_X6_isApart : jcalV yX6_isApart cX6_isApart 5 (some .boolean) 4 := ⟨⟨lw_good_of (List.mem_of_getElem? (i := 823) rfl) rfl, lw_good_of (List.mem_of_getElem? (i := 68) rfl) rfl, by decide +kernel, by decide +kernel, by decide +kernel⟩, lw_good_of (List.mem_of_getElem? (i := 822) rfl) rfl, lw_good_of (List.mem_of_getElem? (i := 46) rfl) rfl⟩
set_option maxRecDepth 50000 in
theorem kc_X6_isPlanned : jcalV yX6_isPlanned cX6_isPlanned 6 (some .boolean) 1 := ⟨⟨lw_good_of (List.mem_of_getElem? (i := 819) rfl) rfl, lw_good_of (List.mem_of_getElem? (i := 68) rfl) rfl, by decide +kernel, by decide +kernel, by decide +kernel⟩, lw_good_of (List.mem_of_getElem? (i := 818) rfl) rfl, lw_good_of (List.mem_of_getElem? (i := 45) rfl) rfl⟩
set_option maxRecDepth 50000 in
theorem kc_X6_run : jcalV yX6_run cX6_run 4 (some .int) 1 := ⟨⟨lw_good_of (List.mem_of_getElem? (i := 799) rfl) rfl, lw_good_of (List.mem_of_getElem? (i := 68) rfl) rfl, by decide +kernel, by decide +kernel, by decide +kernel⟩, lw_good_of (List.mem_of_getElem? (i := 797) rfl) rfl, lw_good_of (List.mem_of_getElem? (i := 798) rfl) rfl⟩
set_option maxRecDepth 50000 in
theorem kc_X6_bin : jcalV yX6_bin cX6_bin 4 (some .int) 3 := ⟨⟨lw_good_of (List.mem_of_getElem? (i := 827) rfl) rfl, lw_good_of (List.mem_of_getElem? (i := 68) rfl) rfl, by decide +kernel, by decide +kernel, by decide +kernel⟩, lw_good_of (List.mem_of_getElem? (i := 825) rfl) rfl, lw_good_of (List.mem_of_getElem? (i := 826) rfl) rfl⟩
set_option maxRecDepth 50000 in
theorem kc_X6_isSide : jcalS yX6_isSide cX6_isSide 1 (some .boolean) 1 := ⟨⟨lw_good_of (List.mem_of_getElem? (i := 830) rfl) rfl, lw_good_of (List.mem_of_getElem? (i := 68) rfl) rfl, by decide +kernel, by decide +kernel, by decide +kernel⟩, lw_good_of (List.mem_of_getElem? (i := 829) rfl) rfl⟩
set_option maxRecDepth 50000 in
theorem kc_X6_box : jcalV yX6_box cX6_box 4 (some .int) 3 := ⟨⟨lw_good_of (List.mem_of_getElem? (i := 834) rfl) rfl, lw_good_of (List.mem_of_getElem? (i := 68) rfl) rfl, by decide +kernel, by decide +kernel, by decide +kernel⟩, lw_good_of (List.mem_of_getElem? (i := 832) rfl) rfl, lw_good_of (List.mem_of_getElem? (i := 833) rfl) rfl⟩
set_option maxRecDepth 50000 in
theorem kc_X6_isBox : jcalV yX6_isBox cX6_isBox 2 (some .boolean) 1 := ⟨⟨lw_good_of (List.mem_of_getElem? (i := 842) rfl) rfl, lw_good_of (List.mem_of_getElem? (i := 68) rfl) rfl, by decide +kernel, by decide +kernel, by decide +kernel⟩, lw_good_of (List.mem_of_getElem? (i := 841) rfl) rfl, lw_good_of (List.mem_of_getElem? (i := 47) rfl) rfl⟩
set_option maxRecDepth 50000 in
theorem kc_X6_turns : jcalV yX6_turns cX6_turns 4 (some .int) 2 := ⟨⟨lw_good_of (List.mem_of_getElem? (i := 838) rfl) rfl, lw_good_of (List.mem_of_getElem? (i := 68) rfl) rfl, by decide +kernel, by decide +kernel, by decide +kernel⟩, lw_good_of (List.mem_of_getElem? (i := 836) rfl) rfl, lw_good_of (List.mem_of_getElem? (i := 837) rfl) rfl⟩
set_option maxRecDepth 50000 in
theorem kc_X6_weight : jcalV yX6_weight cX6_weight 4 (some .int) 2 := ⟨⟨lw_good_of (List.mem_of_getElem? (i := 846) rfl) rfl, lw_good_of (List.mem_of_getElem? (i := 68) rfl) rfl, by decide +kernel, by decide +kernel, by decide +kernel⟩, lw_good_of (List.mem_of_getElem? (i := 844) rfl) rfl, lw_good_of (List.mem_of_getElem? (i := 845) rfl) rfl⟩
set_option maxRecDepth 50000 in
theorem kc_X6_clear : jcalV yX6_clear cX6_clear 2 (some .int) 0 := ⟨⟨lw_good_of (List.mem_of_getElem? (i := 850) rfl) rfl, lw_good_of (List.mem_of_getElem? (i := 68) rfl) rfl, by decide +kernel, by decide +kernel, by decide +kernel⟩, lw_good_of (List.mem_of_getElem? (i := 848) rfl) rfl, lw_good_of (List.mem_of_getElem? (i := 849) rfl) rfl⟩
set_option maxRecDepth 50000 in
theorem kc_X6_told : jcalV yX6_told cX6_told 5 (some .int) 2 := ⟨⟨lw_good_of (List.mem_of_getElem? (i := 854) rfl) rfl, lw_good_of (List.mem_of_getElem? (i := 68) rfl) rfl, by decide +kernel, by decide +kernel, by decide +kernel⟩, lw_good_of (List.mem_of_getElem? (i := 852) rfl) rfl, lw_good_of (List.mem_of_getElem? (i := 853) rfl) rfl⟩
set_option maxRecDepth 50000 in
theorem kc_X6_plan : jcalV yX6_plan cX6_plan 3 (some .int) 0 := ⟨⟨lw_good_of (List.mem_of_getElem? (i := 858) rfl) rfl, lw_good_of (List.mem_of_getElem? (i := 68) rfl) rfl, by decide +kernel, by decide +kernel, by decide +kernel⟩, lw_good_of (List.mem_of_getElem? (i := 856) rfl) rfl, lw_good_of (List.mem_of_getElem? (i := 857) rfl) rfl⟩
set_option maxRecDepth 50000 in
theorem kc_X6_isPlace : jcalV yX6_isPlace cX6_isPlace 6 (some .boolean) 5 := ⟨⟨lw_good_of (List.mem_of_getElem? (i := 866) rfl) rfl, lw_good_of (List.mem_of_getElem? (i := 68) rfl) rfl, by decide +kernel, by decide +kernel, by decide +kernel⟩, lw_good_of (List.mem_of_getElem? (i := 865) rfl) rfl, lw_good_of (List.mem_of_getElem? (i := 48) rfl) rfl⟩
set_option maxRecDepth 50000 in
theorem kc_X6_lay : jcalV yX6_lay cX6_lay 6 (some .int) 5 := ⟨⟨lw_good_of (List.mem_of_getElem? (i := 862) rfl) rfl, lw_good_of (List.mem_of_getElem? (i := 68) rfl) rfl, by decide +kernel, by decide +kernel, by decide +kernel⟩, lw_good_of (List.mem_of_getElem? (i := 860) rfl) rfl, lw_good_of (List.mem_of_getElem? (i := 861) rfl) rfl⟩
set_option maxRecDepth 50000 in
theorem kc_X6_lift : jcalV yX6_lift cX6_lift 2 (some .int) 1 := ⟨⟨lw_good_of (List.mem_of_getElem? (i := 886) rfl) rfl, lw_good_of (List.mem_of_getElem? (i := 68) rfl) rfl, by decide +kernel, by decide +kernel, by decide +kernel⟩, lw_good_of (List.mem_of_getElem? (i := 884) rfl) rfl, lw_good_of (List.mem_of_getElem? (i := 885) rfl) rfl⟩
set_option maxRecDepth 50000 in
theorem kc_X6_begin : jcalV yX6_begin cX6_begin 3 (some .int) 2 := ⟨⟨lw_good_of (List.mem_of_getElem? (i := 882) rfl) rfl, lw_good_of (List.mem_of_getElem? (i := 68) rfl) rfl, by decide +kernel, by decide +kernel, by decide +kernel⟩, lw_good_of (List.mem_of_getElem? (i := 881) rfl) rfl, lw_good_of (List.mem_of_getElem? (i := 51) rfl) rfl⟩
set_option maxRecDepth 50000 in
theorem kc_X6_end : jcalV yX6_end cX6_end 3 (some .int) 2 := ⟨⟨lw_good_of (List.mem_of_getElem? (i := 878) rfl) rfl, lw_good_of (List.mem_of_getElem? (i := 68) rfl) rfl, by decide +kernel, by decide +kernel, by decide +kernel⟩, lw_good_of (List.mem_of_getElem? (i := 877) rfl) rfl, lw_good_of (List.mem_of_getElem? (i := 50) rfl) rfl⟩
set_option maxRecDepth 50000 in
theorem kc_X6_place : jcalV yX6_place cX6_place 3 (some .int) 2 := ⟨⟨lw_good_of (List.mem_of_getElem? (i := 890) rfl) rfl, lw_good_of (List.mem_of_getElem? (i := 68) rfl) rfl, by decide +kernel, by decide +kernel, by decide +kernel⟩, lw_good_of (List.mem_of_getElem? (i := 888) rfl) rfl, lw_good_of (List.mem_of_getElem? (i := 889) rfl) rfl⟩
set_option maxRecDepth 50000 in
theorem kc_X6_apart : jcalV yX6_apart cX6_apart 4 (some .int) 2 := ⟨⟨lw_good_of (List.mem_of_getElem? (i := 874) rfl) rfl, lw_good_of (List.mem_of_getElem? (i := 68) rfl) rfl, by decide +kernel, by decide +kernel, by decide +kernel⟩, lw_good_of (List.mem_of_getElem? (i := 873) rfl) rfl, lw_good_of (List.mem_of_getElem? (i := 49) rfl) rfl⟩
set_option maxRecDepth 50000 in
theorem kc_X6_overlaps : jcalV yX6_overlaps cX6_overlaps 4 (some .int) 0 := ⟨⟨lw_good_of (List.mem_of_getElem? (i := 870) rfl) rfl, lw_good_of (List.mem_of_getElem? (i := 68) rfl) rfl, by decide +kernel, by decide +kernel, by decide +kernel⟩, lw_good_of (List.mem_of_getElem? (i := 868) rfl) rfl, lw_good_of (List.mem_of_getElem? (i := 869) rfl) rfl⟩
set_option maxRecDepth 50000 in
theorem kc_X6_relative : jcalV yX6_relative cX6_relative 3 (some .int) 2 := ⟨⟨lw_good_of (List.mem_of_getElem? (i := 895) rfl) rfl, lw_good_of (List.mem_of_getElem? (i := 68) rfl) rfl, by decide +kernel, by decide +kernel, by decide +kernel⟩, lw_good_of (List.mem_of_getElem? (i := 893) rfl) rfl, lw_good_of (List.mem_of_getElem? (i := 894) rfl) rfl⟩
set_option maxRecDepth 50000 in
theorem kc_X6_common : jcalV yX6_common cX6_common 6 (some .int) 3 := ⟨⟨lw_good_of (List.mem_of_getElem? (i := 903) rfl) rfl, lw_good_of (List.mem_of_getElem? (i := 68) rfl) rfl, by decide +kernel, by decide +kernel, by decide +kernel⟩, lw_good_of (List.mem_of_getElem? (i := 902) rfl) rfl, lw_good_of (List.mem_of_getElem? (i := 52) rfl) rfl⟩
set_option maxRecDepth 50000 in
theorem kc_X6_support : jcalV yX6_support cX6_support 4 (some .int) 1 := ⟨⟨lw_good_of (List.mem_of_getElem? (i := 899) rfl) rfl, lw_good_of (List.mem_of_getElem? (i := 68) rfl) rfl, by decide +kernel, by decide +kernel, by decide +kernel⟩, lw_good_of (List.mem_of_getElem? (i := 897) rfl) rfl, lw_good_of (List.mem_of_getElem? (i := 898) rfl) rfl⟩
set_option maxRecDepth 50000 in
theorem kc_X6_centre : jcalV yX6_centre cX6_centre 8 (some .int) 2 := ⟨⟨lw_good_of (List.mem_of_getElem? (i := 907) rfl) rfl, lw_good_of (List.mem_of_getElem? (i := 68) rfl) rfl, by decide +kernel, by decide +kernel, by decide +kernel⟩, lw_good_of (List.mem_of_getElem? (i := 905) rfl) rfl, lw_good_of (List.mem_of_getElem? (i := 906) rfl) rfl⟩
set_option maxRecDepth 50000 in
theorem kc_X6_planted : jcalV yX6_planted cX6_planted 8 (some .int) 0 := ⟨⟨lw_good_of (List.mem_of_getElem? (i := 915) rfl) rfl, lw_good_of (List.mem_of_getElem? (i := 68) rfl) rfl, by decide +kernel, by decide +kernel, by decide +kernel⟩, lw_good_of (List.mem_of_getElem? (i := 914) rfl) rfl, lw_good_of (List.mem_of_getElem? (i := 53) rfl) rfl⟩
set_option maxRecDepth 50000 in
theorem kc_X6_firstOf : jcalS yX6_firstOf cX6_firstOf 2 (some .int) 1 := ⟨⟨lw_good_of (List.mem_of_getElem? (i := 918) rfl) rfl, lw_good_of (List.mem_of_getElem? (i := 68) rfl) rfl, by decide +kernel, by decide +kernel, by decide +kernel⟩, lw_good_of (List.mem_of_getElem? (i := 917) rfl) rfl⟩
set_option maxRecDepth 50000 in
theorem kc_X6_cutOf : jcalV yX6_cutOf cX6_cutOf 4 (some .int) 1 := ⟨⟨lw_good_of (List.mem_of_getElem? (i := 922) rfl) rfl, lw_good_of (List.mem_of_getElem? (i := 68) rfl) rfl, by decide +kernel, by decide +kernel, by decide +kernel⟩, lw_good_of (List.mem_of_getElem? (i := 921) rfl) rfl, lw_good_of (List.mem_of_getElem? (i := 54) rfl) rfl⟩
set_option maxRecDepth 50000 in
theorem kc_X6_before : jcalV yX6_before cX6_before 6 (some .int) 3 := ⟨⟨lw_good_of (List.mem_of_getElem? (i := 926) rfl) rfl, lw_good_of (List.mem_of_getElem? (i := 68) rfl) rfl, by decide +kernel, by decide +kernel, by decide +kernel⟩, lw_good_of (List.mem_of_getElem? (i := 925) rfl) rfl, lw_good_of (List.mem_of_getElem? (i := 55) rfl) rfl⟩
set_option maxRecDepth 50000 in
theorem kc_X6_tree : jcalV yX6_tree cX6_tree 1 (some .int) 0 := ⟨⟨lw_good_of (List.mem_of_getElem? (i := 911) rfl) rfl, lw_good_of (List.mem_of_getElem? (i := 68) rfl) rfl, by decide +kernel, by decide +kernel, by decide +kernel⟩, lw_good_of (List.mem_of_getElem? (i := 909) rfl) rfl, lw_good_of (List.mem_of_getElem? (i := 910) rfl) rfl⟩
set_option maxRecDepth 50000 in
theorem kc_X6_node : jcalV yX6_node cX6_node 3 (some .int) 2 := ⟨⟨lw_good_of (List.mem_of_getElem? (i := 930) rfl) rfl, lw_good_of (List.mem_of_getElem? (i := 68) rfl) rfl, by decide +kernel, by decide +kernel, by decide +kernel⟩, lw_good_of (List.mem_of_getElem? (i := 928) rfl) rfl, lw_good_of (List.mem_of_getElem? (i := 929) rfl) rfl⟩
set_option maxRecDepth 50000 in
theorem kc_X6_worth : jcalS yX6_worth cX6_worth 6 (some .int) 3 := ⟨⟨lw_good_of (List.mem_of_getElem? (i := 941) rfl) rfl, lw_good_of (List.mem_of_getElem? (i := 68) rfl) rfl, by decide +kernel, by decide +kernel, by decide +kernel⟩, lw_good_of (List.mem_of_getElem? (i := 940) rfl) rfl⟩
set_option maxRecDepth 50000 in
theorem kc_X6_isDual : jcalV yX6_isDual cX6_isDual 3 (some .boolean) 2 := ⟨⟨lw_good_of (List.mem_of_getElem? (i := 938) rfl) rfl, lw_good_of (List.mem_of_getElem? (i := 68) rfl) rfl, by decide +kernel, by decide +kernel, by decide +kernel⟩, lw_good_of (List.mem_of_getElem? (i := 937) rfl) rfl, lw_good_of (List.mem_of_getElem? (i := 56) rfl) rfl⟩
set_option maxRecDepth 50000 in
theorem kc_X6_dual : jcalV yX6_dual cX6_dual 4 (some .int) 3 := ⟨⟨lw_good_of (List.mem_of_getElem? (i := 934) rfl) rfl, lw_good_of (List.mem_of_getElem? (i := 68) rfl) rfl, by decide +kernel, by decide +kernel, by decide +kernel⟩, lw_good_of (List.mem_of_getElem? (i := 932) rfl) rfl, lw_good_of (List.mem_of_getElem? (i := 933) rfl) rfl⟩
set_option maxRecDepth 50000 in
theorem kc_X6_has_ : jcalV yX6_has_ cX6_has_ 4 (some .long) 3 := ⟨⟨lw_good_of (List.mem_of_getElem? (i := 950) rfl) rfl, lw_good_of (List.mem_of_getElem? (i := 68) rfl) rfl, by decide +kernel, by decide +kernel, by decide +kernel⟩, lw_good_of (List.mem_of_getElem? (i := 949) rfl) rfl, lw_good_of (List.mem_of_getElem? (i := 57) rfl) rfl⟩
set_option maxRecDepth 50000 in
theorem kc_X6_needs : jcalV yX6_needs cX6_needs 14 (some .long) 4 := ⟨⟨lw_good_of (List.mem_of_getElem? (i := 954) rfl) rfl, lw_good_of (List.mem_of_getElem? (i := 68) rfl) rfl, by decide +kernel, by decide +kernel, by decide +kernel⟩, lw_good_of (List.mem_of_getElem? (i := 953) rfl) rfl, lw_good_of (List.mem_of_getElem? (i := 58) rfl) rfl⟩
set_option maxRecDepth 50000 in
theorem kc_X6_need : jcalV yX6_need cX6_need 5 (some .long) 4 := ⟨⟨lw_good_of (List.mem_of_getElem? (i := 945) rfl) rfl, lw_good_of (List.mem_of_getElem? (i := 68) rfl) rfl, by decide +kernel, by decide +kernel, by decide +kernel⟩, lw_good_of (List.mem_of_getElem? (i := 943) rfl) rfl, lw_good_of (List.mem_of_getElem? (i := 944) rfl) rfl⟩
set_option maxRecDepth 50000 in
theorem kc_X6_prove : jcalV yX6_prove cX6_prove 6 none 0 := ⟨⟨lw_good_of (List.mem_of_getElem? (i := 962) rfl) rfl, lw_good_of (List.mem_of_getElem? (i := 68) rfl) rfl, by decide +kernel, by decide +kernel, by decide +kernel⟩, lw_good_of (List.mem_of_getElem? (i := 961) rfl) rfl, lw_good_of (List.mem_of_getElem? (i := 59) rfl) rfl⟩
set_option maxRecDepth 50000 in
theorem kc_X6_proof : jcalV yX6_proof cX6_proof 2 (some .int) 1 := ⟨⟨lw_good_of (List.mem_of_getElem? (i := 958) rfl) rfl, lw_good_of (List.mem_of_getElem? (i := 68) rfl) rfl, by decide +kernel, by decide +kernel, by decide +kernel⟩, lw_good_of (List.mem_of_getElem? (i := 956) rfl) rfl, lw_good_of (List.mem_of_getElem? (i := 957) rfl) rfl⟩
set_option maxRecDepth 50000 in
theorem kc_X6_none : jcalV yX6_none cX6_none 8 (some .int) 5 := ⟨⟨lw_good_of (List.mem_of_getElem? (i := 966) rfl) rfl, lw_good_of (List.mem_of_getElem? (i := 68) rfl) rfl, by decide +kernel, by decide +kernel, by decide +kernel⟩, lw_good_of (List.mem_of_getElem? (i := 964) rfl) rfl, lw_good_of (List.mem_of_getElem? (i := 965) rfl) rfl⟩
set_option maxRecDepth 50000 in
theorem kc_X6_isPossible : jcalV yX6_isPossible cX6_isPossible 12 (some .boolean) 6 := ⟨⟨lw_good_of (List.mem_of_getElem? (i := 970) rfl) rfl, lw_good_of (List.mem_of_getElem? (i := 68) rfl) rfl, by decide +kernel, by decide +kernel, by decide +kernel⟩, lw_good_of (List.mem_of_getElem? (i := 969) rfl) rfl, lw_good_of (List.mem_of_getElem? (i := 60) rfl) rfl⟩
set_option maxRecDepth 50000 in
theorem kc_J6_bitCount_0f7a4 : jcalS yJ6_bitCount_0f7a4 cJ6_bitCount_0f7a4 1 (some .int) 1 := ⟨⟨lw_good_of (List.mem_of_getElem? (i := 361) rfl) rfl, lw_good_of (List.mem_of_getElem? (i := 69) rfl) rfl, by decide +kernel, by decide +kernel, by decide +kernel⟩, lw_good_of (List.mem_of_getElem? (i := 360) rfl) rfl⟩
set_option maxRecDepth 50000 in
theorem kc_J9_max_7cf53 : jcalS yJ9_max_7cf53 cJ9_max_7cf53 2 (some .int) 2 := ⟨⟨lw_good_of (List.mem_of_getElem? (i := 421) rfl) rfl, lw_good_of (List.mem_of_getElem? (i := 70) rfl) rfl, by decide +kernel, by decide +kernel, by decide +kernel⟩, lw_good_of (List.mem_of_getElem? (i := 420) rfl) rfl⟩
set_option maxRecDepth 50000 in
theorem kc_J9_min_7cf53 : jcalS yJ9_min_7cf53 cJ9_min_7cf53 2 (some .int) 2 := ⟨⟨lw_good_of (List.mem_of_getElem? (i := 514) rfl) rfl, lw_good_of (List.mem_of_getElem? (i := 70) rfl) rfl, by decide +kernel, by decide +kernel, by decide +kernel⟩, lw_good_of (List.mem_of_getElem? (i := 513) rfl) rfl⟩
set_option maxRecDepth 50000 in
theorem kl_X5_48 : Cond.methodLink RX5 48 yX5_beginAnew ∈ lw_good := lw_good_of (List.mem_of_getElem? (i := 253) rfl) rfl
set_option maxRecDepth 50000 in
theorem kl_X5_188 : Cond.methodLink RX5 188 yX3_restart ∈ lw_good := lw_good_of (List.mem_of_getElem? (i := 257) rfl) rfl
set_option maxRecDepth 50000 in
theorem kl_X3_49 : Cond.methodLink RX3 49 yX3_orderBoxes ∈ lw_good := lw_good_of (List.mem_of_getElem? (i := 261) rfl) rfl
set_option maxRecDepth 50000 in
theorem kl_X3_72 : Cond.methodLink RX3 72 yX4_volume ∈ lw_good := lw_good_of (List.mem_of_getElem? (i := 265) rfl) rfl
set_option maxRecDepth 50000 in
theorem kl_X3_58 : Cond.methodLink RX3 58 yX3_sumsOfOthers ∈ lw_good := lw_good_of (List.mem_of_getElem? (i := 269) rfl) rfl
set_option maxRecDepth 50000 in
theorem kl_X3_79 : Cond.methodLink RX3 79 yX3_withExtents ∈ lw_good := lw_good_of (List.mem_of_getElem? (i := 273) rfl) rfl
set_option maxRecDepth 50000 in
theorem kl_X3_83 : Cond.methodLink RX3 83 yX4_hasTurn ∈ lw_good := lw_good_of (List.mem_of_getElem? (i := 277) rfl) rfl
set_option maxRecDepth 50000 in
theorem kl_X3_87 : Cond.methodLink RX3 87 yX4_extent ∈ lw_good := lw_good_of (List.mem_of_getElem? (i := 281) rfl) rfl
set_option maxRecDepth 50000 in
theorem kl_X3_68 : Cond.methodLink RX3 68 yX3_enter ∈ lw_good := lw_good_of (List.mem_of_getElem? (i := 287) rfl) rfl
set_option maxRecDepth 50000 in
theorem kl_X5_191 : Cond.methodLink RX5 191 yX2_takeAllAway ∈ lw_good := lw_good_of (List.mem_of_getElem? (i := 291) rfl) rfl
set_option maxRecDepth 50000 in
theorem kl_X5_194 : Cond.methodLink RX5 194 yX1_forget ∈ lw_good := lw_good_of (List.mem_of_getElem? (i := 295) rfl) rfl
set_option maxRecDepth 50000 in
theorem kl_L_13 : Cond.methodLink RL 13 yX5_bin ∈ lw_good := lw_good_of (List.mem_of_getElem? (i := 315) rfl) rfl
set_option maxRecDepth 50000 in
theorem kl_X5_51 : Cond.methodLink RX5 51 yX5_isLength ∈ lw_good := lw_good_of (List.mem_of_getElem? (i := 319) rfl) rfl
set_option maxRecDepth 50000 in
theorem kl_L_18 : Cond.methodLink RL 18 yX5_box ∈ lw_good := lw_good_of (List.mem_of_getElem? (i := 322) rfl) rfl
set_option maxRecDepth 50000 in
theorem kl_X5_63 : Cond.methodLink RX5 63 yX4_append ∈ lw_good := lw_good_of (List.mem_of_getElem? (i := 326) rfl) rfl
set_option maxRecDepth 50000 in
theorem kl_L_22 : Cond.methodLink RL 22 yX5_turns ∈ lw_good := lw_good_of (List.mem_of_getElem? (i := 330) rfl) rfl
set_option maxRecDepth 50000 in
theorem kl_X5_67 : Cond.methodLink RX5 67 yX4_isBox ∈ lw_good := lw_good_of (List.mem_of_getElem? (i := 334) rfl) rfl
set_option maxRecDepth 50000 in
theorem kl_L_27 : Cond.methodLink RL 27 yX5_weight ∈ lw_good := lw_good_of (List.mem_of_getElem? (i := 338) rfl) rfl
set_option maxRecDepth 50000 in
theorem kl_L_31 : Cond.methodLink RL 31 yX5_clear ∈ lw_good := lw_good_of (List.mem_of_getElem? (i := 342) rfl) rfl
set_option maxRecDepth 50000 in
theorem kl_L_36 : Cond.methodLink RL 36 yX5_run ∈ lw_good := lw_good_of (List.mem_of_getElem? (i := 346) rfl) rfl
set_option maxRecDepth 50000 in
theorem kl_X5_76 : Cond.methodLink RX5 76 yX3_goOn ∈ lw_good := lw_good_of (List.mem_of_getElem? (i := 350) rfl) rfl
set_option maxRecDepth 50000 in
theorem kl_X3_108 : Cond.methodLink RX3 108 yX3_lookAlongRow ∈ lw_good := lw_good_of (List.mem_of_getElem? (i := 355) rfl) rfl
set_option maxRecDepth 50000 in
theorem kl_X3_90 : Cond.methodLink RX3 90 yJ6_bitCount_0f7a4 ∈ lw_good := lw_good_of (List.mem_of_getElem? (i := 359) rfl) rfl
set_option maxRecDepth 50000 in
theorem kl_X3_143 : Cond.methodLink RX3 143 yX3_lookAtBlocked ∈ lw_good := lw_good_of (List.mem_of_getElem? (i := 365) rfl) rfl
set_option maxRecDepth 50000 in
theorem kl_X3_124 : Cond.methodLinkNest RX3 124 yX5_lowest "PlaceRectangles" ∈ jnest := by decide +kernel
set_option maxRecDepth 50000 in
theorem kl_X5_197 : Cond.methodLink RX5 197 yJ6_bitCount_0f7a4 ∈ lw_good := lw_good_of (List.mem_of_getElem? (i := 372) rfl) rfl
set_option maxRecDepth 50000 in
theorem kl_X3_146 : Cond.methodLink RX3 146 yX3_take ∈ lw_good := lw_good_of (List.mem_of_getElem? (i := 373) rfl) rfl
set_option maxRecDepth 50000 in
theorem kl_X3_127 : Cond.methodLink RX3 127 yX3_setAxis ∈ lw_good := lw_good_of (List.mem_of_getElem? (i := 377) rfl) rfl
set_option maxRecDepth 50000 in
theorem kl_X3_111 : Cond.methodLink RX3 111 yX3_nextRow ∈ lw_good := lw_good_of (List.mem_of_getElem? (i := 381) rfl) rfl
set_option maxRecDepth 50000 in
theorem kl_X3_118 : Cond.methodLink RX3 118 yX3_nextTurn ∈ lw_good := lw_good_of (List.mem_of_getElem? (i := 385) rfl) rfl
set_option maxRecDepth 50000 in
theorem kl_X3_95 : Cond.methodLink RX3 95 yX4_counts ∈ lw_good := lw_good_of (List.mem_of_getElem? (i := 389) rfl) rfl
set_option maxRecDepth 50000 in
theorem kl_X4_35 : Cond.methodLink RX4 35 yX4_hasTurn ∈ lw_good := lw_good_of (List.mem_of_getElem? (i := 393) rfl) rfl
set_option maxRecDepth 50000 in
theorem kl_X4_39 : Cond.methodLink RX4 39 yX4_isShort ∈ lw_good := lw_good_of (List.mem_of_getElem? (i := 394) rfl) rfl
set_option maxRecDepth 50000 in
theorem kl_X4_31 : Cond.methodLink RX4 31 yX4_extent ∈ lw_good := lw_good_of (List.mem_of_getElem? (i := 398) rfl) rfl
set_option maxRecDepth 50000 in
theorem kl_X4_42 : Cond.methodLink RX4 42 yX4_sameExtents ∈ lw_good := lw_good_of (List.mem_of_getElem? (i := 399) rfl) rfl
set_option maxRecDepth 50000 in
theorem kl_X3_135 : Cond.methodLink RX3 135 yX3_turnTo ∈ lw_good := lw_good_of (List.mem_of_getElem? (i := 403) rfl) rfl
set_option maxRecDepth 50000 in
theorem kl_X3_98 : Cond.methodLink RX3 98 yX3_wayCoordinates ∈ lw_good := lw_good_of (List.mem_of_getElem? (i := 407) rfl) rfl
set_option maxRecDepth 50000 in
theorem kl_X3_121 : Cond.methodLink RX3 121 yX3_nextLayer ∈ lw_good := lw_good_of (List.mem_of_getElem? (i := 411) rfl) rfl
set_option maxRecDepth 50000 in
theorem kl_X3_131 : Cond.methodLink RX3 131 yX3_blockedInRow ∈ lw_good := lw_good_of (List.mem_of_getElem? (i := 415) rfl) rfl
set_option maxRecDepth 50000 in
theorem kl_X3_138 : Cond.methodLink RX3 138 yJ9_max_7cf53 ∈ lw_good := lw_good_of (List.mem_of_getElem? (i := 419) rfl) rfl
set_option maxRecDepth 50000 in
theorem kl_X3_115 : Cond.methodLink RX3 115 yX3_goBack ∈ lw_good := lw_good_of (List.mem_of_getElem? (i := 422) rfl) rfl
set_option maxRecDepth 50000 in
theorem kl_L_41 : Cond.methodLink RL 41 yX5_told ∈ lw_good := lw_good_of (List.mem_of_getElem? (i := 426) rfl) rfl
set_option maxRecDepth 50000 in
theorem kl_X5_86 : Cond.methodLink RX5 86 yX3_wayCount ∈ lw_good := lw_good_of (List.mem_of_getElem? (i := 430) rfl) rfl
set_option maxRecDepth 50000 in
theorem kl_X5_89 : Cond.methodLink RX5 89 yX3_coordinateCount ∈ lw_good := lw_good_of (List.mem_of_getElem? (i := 434) rfl) rfl
set_option maxRecDepth 50000 in
theorem kl_L_45 : Cond.methodLink RL 45 yX5_plan ∈ lw_good := lw_good_of (List.mem_of_getElem? (i := 438) rfl) rfl
set_option maxRecDepth 50000 in
theorem kl_X5_102 : Cond.methodLink RX5 102 yX2_put ∈ lw_good := lw_good_of (List.mem_of_getElem? (i := 442) rfl) rfl
set_option maxRecDepth 50000 in
theorem kl_X2_29 : Cond.methodLink RX2 29 yX4_extent ∈ lw_good := lw_good_of (List.mem_of_getElem? (i := 446) rfl) rfl
set_option maxRecDepth 50000 in
theorem kl_L_49 : Cond.methodLink RL 49 yX5_lay ∈ lw_good := lw_good_of (List.mem_of_getElem? (i := 447) rfl) rfl
set_option maxRecDepth 50000 in
theorem kl_X5_106 : Cond.methodLink RX5 106 yX4_isPlace ∈ lw_good := lw_good_of (List.mem_of_getElem? (i := 451) rfl) rfl
set_option maxRecDepth 50000 in
theorem kl_X4_46 : Cond.methodLink RX4 46 yX4_isBox ∈ lw_good := lw_good_of (List.mem_of_getElem? (i := 455) rfl) rfl
set_option maxRecDepth 50000 in
theorem kl_X4_50 : Cond.methodLink RX4 50 yX4_liesWithin ∈ lw_good := lw_good_of (List.mem_of_getElem? (i := 456) rfl) rfl
set_option maxRecDepth 50000 in
theorem kl_X5_110 : Cond.methodLink RX5 110 yX2_overlapCount ∈ lw_good := lw_good_of (List.mem_of_getElem? (i := 460) rfl) rfl
set_option maxRecDepth 50000 in
theorem kl_X2_35 : Cond.methodLink RX2 35 yX2_holds ∈ lw_good := lw_good_of (List.mem_of_getElem? (i := 464) rfl) rfl
set_option maxRecDepth 50000 in
theorem kl_X2_39 : Cond.methodLink RX2 39 yX2_firstGap ∈ lw_good := lw_good_of (List.mem_of_getElem? (i := 468) rfl) rfl
set_option maxRecDepth 50000 in
theorem kl_L_54 : Cond.methodLink RL 54 yX5_lift ∈ lw_good := lw_good_of (List.mem_of_getElem? (i := 472) rfl) rfl
set_option maxRecDepth 50000 in
theorem kl_X5_114 : Cond.methodLink RX5 114 yX2_holds ∈ lw_good := lw_good_of (List.mem_of_getElem? (i := 476) rfl) rfl
set_option maxRecDepth 50000 in
theorem kl_X5_117 : Cond.methodLink RX5 117 yX2_takeAway ∈ lw_good := lw_good_of (List.mem_of_getElem? (i := 477) rfl) rfl
set_option maxRecDepth 50000 in
theorem kl_L_58 : Cond.methodLink RL 58 yX5_place ∈ lw_good := lw_good_of (List.mem_of_getElem? (i := 481) rfl) rfl
set_option maxRecDepth 50000 in
theorem kl_X5_125 : Cond.methodLink RX5 125 yX2_extentOf ∈ lw_good := lw_good_of (List.mem_of_getElem? (i := 485) rfl) rfl
set_option maxRecDepth 50000 in
theorem kl_L_62 : Cond.methodLink RL 62 yX5_overlaps ∈ lw_good := lw_good_of (List.mem_of_getElem? (i := 489) rfl) rfl
set_option maxRecDepth 50000 in
theorem kl_L_66 : Cond.methodLink RL 66 yX5_relative ∈ lw_good := lw_good_of (List.mem_of_getElem? (i := 493) rfl) rfl
set_option maxRecDepth 50000 in
theorem kl_X5_128 : Cond.methodLink RX5 128 yX2_firstGap ∈ lw_good := lw_good_of (List.mem_of_getElem? (i := 497) rfl) rfl
set_option maxRecDepth 50000 in
theorem kl_L_70 : Cond.methodLink RL 70 yX5_support ∈ lw_good := lw_good_of (List.mem_of_getElem? (i := 498) rfl) rfl
set_option maxRecDepth 50000 in
theorem kl_X5_131 : Cond.methodLink RX5 131 yX2_heldArea ∈ lw_good := lw_good_of (List.mem_of_getElem? (i := 502) rfl) rfl
set_option maxRecDepth 50000 in
theorem kl_X2_43 : Cond.methodLink RX2 43 yX2_extentOf ∈ lw_good := lw_good_of (List.mem_of_getElem? (i := 506) rfl) rfl
set_option maxRecDepth 50000 in
theorem kl_X2_46 : Cond.methodLink RX2 46 yX2_commonLength ∈ lw_good := lw_good_of (List.mem_of_getElem? (i := 507) rfl) rfl
set_option maxRecDepth 50000 in
theorem kl_X2_49 : Cond.methodLink RX2 49 yJ9_max_7cf53 ∈ lw_good := lw_good_of (List.mem_of_getElem? (i := 511) rfl) rfl
set_option maxRecDepth 50000 in
theorem kl_X2_54 : Cond.methodLink RX2 54 yJ9_min_7cf53 ∈ lw_good := lw_good_of (List.mem_of_getElem? (i := 512) rfl) rfl
set_option maxRecDepth 50000 in
theorem kl_L_74 : Cond.methodLink RL 74 yX5_centre ∈ lw_good := lw_good_of (List.mem_of_getElem? (i := 515) rfl) rfl
set_option maxRecDepth 50000 in
theorem kl_X5_134 : Cond.methodLink RX5 134 yX5_isAxis ∈ lw_good := lw_good_of (List.mem_of_getElem? (i := 519) rfl) rfl
set_option maxRecDepth 50000 in
theorem kl_X5_137 : Cond.methodLink RX5 137 yX2_doubledMoment ∈ lw_good := lw_good_of (List.mem_of_getElem? (i := 522) rfl) rfl
set_option maxRecDepth 50000 in
theorem kl_X5_140 : Cond.methodLink RX5 140 yX2_weightSum ∈ lw_good := lw_good_of (List.mem_of_getElem? (i := 526) rfl) rfl
set_option maxRecDepth 50000 in
theorem kl_X5_143 : Cond.methodLink RX5 143 yX5_commonDivisor ∈ lw_good := lw_good_of (List.mem_of_getElem? (i := 530) rfl) rfl
set_option maxRecDepth 50000 in
theorem kl_L_78 : Cond.methodLink RL 78 yX5_tree ∈ lw_good := lw_good_of (List.mem_of_getElem? (i := 533) rfl) rfl
set_option maxRecDepth 50000 in
theorem kl_X5_146 : Cond.methodLink RX5 146 yX0_build ∈ lw_good := lw_good_of (List.mem_of_getElem? (i := 537) rfl) rfl
set_option maxRecDepth 50000 in
theorem kl_X0_28 : Cond.methodLinkNest RX0 28 yX5_lowest "PlaceRectangles" ∈ jnest := by decide +kernel
set_option maxRecDepth 50000 in
theorem kl_X0_32 : Cond.methodLink RX0 32 yX0_write ∈ lw_good := lw_good_of (List.mem_of_getElem? (i := 542) rfl) rfl
set_option maxRecDepth 50000 in
theorem kl_X0_36 : Cond.methodLink RX0 36 yX0_axisOfCut ∈ lw_good := lw_good_of (List.mem_of_getElem? (i := 546) rfl) rfl
set_option maxRecDepth 50000 in
theorem kl_X0_39 : Cond.methodLink RX0 39 yX0_cutPlaces ∈ lw_good := lw_good_of (List.mem_of_getElem? (i := 550) rfl) rfl
set_option maxRecDepth 50000 in
theorem kl_X0_58 : Cond.methodLink RX0 58 yJ9_min_7cf53 ∈ lw_good := lw_good_of (List.mem_of_getElem? (i := 554) rfl) rfl
set_option maxRecDepth 50000 in
theorem kl_X0_63 : Cond.methodLink RX0 63 yJ9_max_7cf53 ∈ lw_good := lw_good_of (List.mem_of_getElem? (i := 555) rfl) rfl
set_option maxRecDepth 50000 in
theorem kl_X0_43 : Cond.methodLink RX0 43 yX0_boxesBefore ∈ lw_good := lw_good_of (List.mem_of_getElem? (i := 556) rfl) rfl
set_option maxRecDepth 50000 in
theorem kl_X0_47 : Cond.methodLink RX0 47 yJ6_bitCount_0f7a4 ∈ lw_good := lw_good_of (List.mem_of_getElem? (i := 560) rfl) rfl
set_option maxRecDepth 50000 in
theorem kl_L_82 : Cond.methodLink RL 82 yX5_node ∈ lw_good := lw_good_of (List.mem_of_getElem? (i := 561) rfl) rfl
set_option maxRecDepth 50000 in
theorem kl_L_86 : Cond.methodLink RL 86 yX5_dual ∈ lw_good := lw_good_of (List.mem_of_getElem? (i := 565) rfl) rfl
set_option maxRecDepth 50000 in
theorem kl_X5_152 : Cond.methodLink RX5 152 yX1_isFunction ∈ lw_good := lw_good_of (List.mem_of_getElem? (i := 569) rfl) rfl
set_option maxRecDepth 50000 in
theorem kl_X1_46 : Cond.methodLink RX1 46 yX1_lastFunction ∈ lw_good := lw_good_of (List.mem_of_getElem? (i := 573) rfl) rfl
set_option maxRecDepth 50000 in
theorem kl_X5_156 : Cond.methodLink RX5 156 yX1_valueOf ∈ lw_good := lw_good_of (List.mem_of_getElem? (i := 577) rfl) rfl
set_option maxRecDepth 50000 in
theorem kl_L_90 : Cond.methodLink RL 90 yX5_need ∈ lw_good := lw_good_of (List.mem_of_getElem? (i := 580) rfl) rfl
set_option maxRecDepth 50000 in
theorem kl_X5_162 : Cond.methodLink RX5 162 yX1_prepare ∈ lw_good := lw_good_of (List.mem_of_getElem? (i := 585) rfl) rfl
set_option maxRecDepth 50000 in
theorem kl_X1_50 : Cond.methodLink RX1 50 yX1_tellValues ∈ lw_good := lw_good_of (List.mem_of_getElem? (i := 589) rfl) rfl
set_option maxRecDepth 50000 in
theorem kl_X1_62 : Cond.methodLink RX1 62 yX1_valueOf ∈ lw_good := lw_good_of (List.mem_of_getElem? (i := 593) rfl) rfl
set_option maxRecDepth 50000 in
theorem kl_X1_58 : Cond.methodLink RX1 58 yX1_tellTurns ∈ lw_good := lw_good_of (List.mem_of_getElem? (i := 594) rfl) rfl
set_option maxRecDepth 50000 in
theorem kl_X1_66 : Cond.methodLink RX1 66 yX4_counts ∈ lw_good := lw_good_of (List.mem_of_getElem? (i := 598) rfl) rfl
set_option maxRecDepth 50000 in
theorem kl_X1_70 : Cond.methodLink RX1 70 yX4_extent ∈ lw_good := lw_good_of (List.mem_of_getElem? (i := 599) rfl) rfl
set_option maxRecDepth 50000 in
theorem kl_X5_165 : Cond.methodLink RX5 165 yX1_choose ∈ lw_good := lw_good_of (List.mem_of_getElem? (i := 600) rfl) rfl
set_option maxRecDepth 50000 in
theorem kl_X5_169 : Cond.methodLink RX5 169 yX4_allBoxes ∈ lw_good := lw_good_of (List.mem_of_getElem? (i := 604) rfl) rfl
set_option maxRecDepth 50000 in
theorem kl_X5_172 : Cond.methodLink RX5 172 yX1_needOf ∈ lw_good := lw_good_of (List.mem_of_getElem? (i := 608) rfl) rfl
set_option maxRecDepth 50000 in
theorem kl_X1_76 : Cond.methodLink RX1 76 yX1_binHas ∈ lw_good := lw_good_of (List.mem_of_getElem? (i := 612) rfl) rfl
set_option maxRecDepth 50000 in
theorem kl_X1_79 : Cond.methodLink RX1 79 yJ9_min_7cf53 ∈ lw_good := lw_good_of (List.mem_of_getElem? (i := 616) rfl) rfl
set_option maxRecDepth 50000 in
theorem kl_X5_175 : Cond.methodLink RX5 175 yX1_binHas ∈ lw_good := lw_good_of (List.mem_of_getElem? (i := 617) rfl) rfl
set_option maxRecDepth 50000 in
theorem kl_L_95 : Cond.methodLink RL 95 yX5_proof ∈ lw_good := lw_good_of (List.mem_of_getElem? (i := 618) rfl) rfl
set_option maxRecDepth 50000 in
theorem kl_X5_178 : Cond.methodLink RX5 178 yX1_seekProof ∈ lw_good := lw_good_of (List.mem_of_getElem? (i := 622) rfl) rfl
set_option maxRecDepth 50000 in
theorem kl_X1_87 : Cond.methodLink RX1 87 yX1_prepare ∈ lw_good := lw_good_of (List.mem_of_getElem? (i := 626) rfl) rfl
set_option maxRecDepth 50000 in
theorem kl_X1_90 : Cond.methodLink RX1 90 yX1_leaveOutIdle ∈ lw_good := lw_good_of (List.mem_of_getElem? (i := 627) rfl) rfl
set_option maxRecDepth 50000 in
theorem kl_X1_93 : Cond.methodLink RX1 93 yX1_isTried ∈ lw_good := lw_good_of (List.mem_of_getElem? (i := 631) rfl) rfl
set_option maxRecDepth 50000 in
theorem kl_X1_117 : Cond.methodLink RX1 117 yX1_givesNoLess ∈ lw_good := lw_good_of (List.mem_of_getElem? (i := 635) rfl) rfl
set_option maxRecDepth 50000 in
theorem kl_X1_96 : Cond.methodLink RX1 96 yX1_seekOnLastAxis ∈ lw_good := lw_good_of (List.mem_of_getElem? (i := 639) rfl) rfl
set_option maxRecDepth 50000 in
theorem kl_X1_103 : Cond.methodLink RX1 103 yX1_choose ∈ lw_good := lw_good_of (List.mem_of_getElem? (i := 643) rfl) rfl
set_option maxRecDepth 50000 in
theorem kl_X1_107 : Cond.methodLink RX1 107 yX4_allBoxes ∈ lw_good := lw_good_of (List.mem_of_getElem? (i := 644) rfl) rfl
set_option maxRecDepth 50000 in
theorem kl_X1_111 : Cond.methodLink RX1 111 yX1_proves ∈ lw_good := lw_good_of (List.mem_of_getElem? (i := 645) rfl) rfl
set_option maxRecDepth 50000 in
theorem kl_X1_84 : Cond.methodLink RX1 84 yX1_needOf ∈ lw_good := lw_good_of (List.mem_of_getElem? (i := 649) rfl) rfl
set_option maxRecDepth 50000 in
theorem kl_X1_114 : Cond.methodLink RX1 114 yX1_reason ∈ lw_good := lw_good_of (List.mem_of_getElem? (i := 650) rfl) rfl
set_option maxRecDepth 50000 in
theorem kl_X1_99 : Cond.methodLink RX1 99 yX1_keep ∈ lw_good := lw_good_of (List.mem_of_getElem? (i := 654) rfl) rfl
set_option maxRecDepth 50000 in
theorem kl_L_99 : Cond.methodLink RL 99 yX5_none ∈ lw_good := lw_good_of (List.mem_of_getElem? (i := 658) rfl) rfl
set_option maxRecDepth 50000 in
theorem kl_X5_184 : Cond.methodLink RX5 184 yX4_hasRoomBeside ∈ lw_good := lw_good_of (List.mem_of_getElem? (i := 662) rfl) rfl
set_option maxRecDepth 50000 in
theorem kl_X4_53 : Cond.methodLink RX4 53 yJ9_max_7cf53 ∈ lw_good := lw_good_of (List.mem_of_getElem? (i := 666) rfl) rfl
set_option maxRecDepth 50000 in
theorem kl_X4_59 : Cond.methodLink RX4 59 yX4_counts ∈ lw_good := lw_good_of (List.mem_of_getElem? (i := 667) rfl) rfl
set_option maxRecDepth 50000 in
theorem kl_X6_74 : Cond.methodLink RX6 74 yX6_anew ∈ lw_good := lw_good_of (List.mem_of_getElem? (i := 674) rfl) rfl
set_option maxRecDepth 50000 in
theorem kl_X6_95 : Cond.methodLink RX6 95 yX6_volume ∈ lw_good := lw_good_of (List.mem_of_getElem? (i := 678) rfl) rfl
set_option maxRecDepth 50000 in
theorem kl_X6_99 : Cond.methodLink RX6 99 yX6_sum ∈ lw_good := lw_good_of (List.mem_of_getElem? (i := 682) rfl) rfl
set_option maxRecDepth 50000 in
theorem kl_X6_118 : Cond.methodLink RX6 118 yX6_has ∈ lw_good := lw_good_of (List.mem_of_getElem? (i := 686) rfl) rfl
set_option maxRecDepth 50000 in
theorem kl_X6_121 : Cond.methodLink RX6 121 yX6_extent ∈ lw_good := lw_good_of (List.mem_of_getElem? (i := 690) rfl) rfl
set_option maxRecDepth 50000 in
theorem kl_X6_77 : Cond.methodLink RX6 77 yX6_sideOf ∈ lw_good := lw_good_of (List.mem_of_getElem? (i := 694) rfl) rfl
set_option maxRecDepth 50000 in
theorem kl_X6_103 : Cond.methodLink RX6 103 yX6_counted ∈ lw_good := lw_good_of (List.mem_of_getElem? (i := 697) rfl) rfl
set_option maxRecDepth 50000 in
theorem kl_X6_124 : Cond.methodLink RX6 124 yX6_isSum ∈ lw_good := lw_good_of (List.mem_of_getElem? (i := 701) rfl) rfl
set_option maxRecDepth 50000 in
theorem kl_X6_107 : Cond.methodLink RX6 107 yX6_isFirst ∈ lw_good := lw_good_of (List.mem_of_getElem? (i := 705) rfl) rfl
set_option maxRecDepth 50000 in
theorem kl_X6_111 : Cond.methodLink RX6 111 yX6_many ∈ lw_good := lw_good_of (List.mem_of_getElem? (i := 709) rfl) rfl
set_option maxRecDepth 50000 in
theorem kl_L_40 : Cond.methodLink RL 40 yX6_run ∈ lw_good := lw_good_of (List.mem_of_getElem? (i := 796) rfl) rfl
set_option maxRecDepth 50000 in
theorem kl_X6_138 : Cond.methodLink RX6 138 yX6_ways ∈ lw_good := lw_good_of (List.mem_of_getElem? (i := 800) rfl) rfl
set_option maxRecDepth 50000 in
theorem kl_X6_128 : Cond.methodLink RX6 128 yX6_waysOf ∈ lw_good := lw_good_of (List.mem_of_getElem? (i := 804) rfl) rfl
set_option maxRecDepth 50000 in
theorem kl_X6_141 : Cond.methodLink RX6 141 yX6_goes ∈ lw_good := lw_good_of (List.mem_of_getElem? (i := 808) rfl) rfl
set_option maxRecDepth 50000 in
theorem kl_X6_131 : Cond.methodLink RX6 131 yX6_coordinate ∈ lw_good := lw_good_of (List.mem_of_getElem? (i := 812) rfl) rfl
set_option maxRecDepth 50000 in
theorem kl_X6_144 : Cond.methodLink RX6 144 yX6_isPlanned ∈ lw_good := lw_good_of (List.mem_of_getElem? (i := 816) rfl) rfl
set_option maxRecDepth 50000 in
theorem kl_X6_134 : Cond.methodLink RX6 134 yX6_isApart ∈ lw_good := lw_good_of (List.mem_of_getElem? (i := 820) rfl) rfl
set_option maxRecDepth 50000 in
theorem kl_L_17 : Cond.methodLink RL 17 yX6_bin ∈ lw_good := lw_good_of (List.mem_of_getElem? (i := 824) rfl) rfl
set_option maxRecDepth 50000 in
theorem kl_X6_148 : Cond.methodLink RX6 148 yX6_isSide ∈ lw_good := lw_good_of (List.mem_of_getElem? (i := 828) rfl) rfl
set_option maxRecDepth 50000 in
theorem kl_L_21 : Cond.methodLink RL 21 yX6_box ∈ lw_good := lw_good_of (List.mem_of_getElem? (i := 831) rfl) rfl
set_option maxRecDepth 50000 in
theorem kl_L_26 : Cond.methodLink RL 26 yX6_turns ∈ lw_good := lw_good_of (List.mem_of_getElem? (i := 835) rfl) rfl
set_option maxRecDepth 50000 in
theorem kl_X6_151 : Cond.methodLink RX6 151 yX6_isBox ∈ lw_good := lw_good_of (List.mem_of_getElem? (i := 839) rfl) rfl
set_option maxRecDepth 50000 in
theorem kl_L_30 : Cond.methodLink RL 30 yX6_weight ∈ lw_good := lw_good_of (List.mem_of_getElem? (i := 843) rfl) rfl
set_option maxRecDepth 50000 in
theorem kl_L_35 : Cond.methodLink RL 35 yX6_clear ∈ lw_good := lw_good_of (List.mem_of_getElem? (i := 847) rfl) rfl
set_option maxRecDepth 50000 in
theorem kl_L_44 : Cond.methodLink RL 44 yX6_told ∈ lw_good := lw_good_of (List.mem_of_getElem? (i := 851) rfl) rfl
set_option maxRecDepth 50000 in
theorem kl_L_48 : Cond.methodLink RL 48 yX6_plan ∈ lw_good := lw_good_of (List.mem_of_getElem? (i := 855) rfl) rfl
set_option maxRecDepth 50000 in
theorem kl_L_53 : Cond.methodLink RL 53 yX6_lay ∈ lw_good := lw_good_of (List.mem_of_getElem? (i := 859) rfl) rfl
set_option maxRecDepth 50000 in
theorem kl_X6_154 : Cond.methodLink RX6 154 yX6_isPlace ∈ lw_good := lw_good_of (List.mem_of_getElem? (i := 863) rfl) rfl
set_option maxRecDepth 50000 in
theorem kl_X6_158 : Cond.methodLink RX6 158 yX6_overlaps ∈ lw_good := lw_good_of (List.mem_of_getElem? (i := 867) rfl) rfl
set_option maxRecDepth 50000 in
theorem kl_X6_168 : Cond.methodLink RX6 168 yX6_apart ∈ lw_good := lw_good_of (List.mem_of_getElem? (i := 871) rfl) rfl
set_option maxRecDepth 50000 in
theorem kl_X6_165 : Cond.methodLink RX6 165 yX6_end ∈ lw_good := lw_good_of (List.mem_of_getElem? (i := 875) rfl) rfl
set_option maxRecDepth 50000 in
theorem kl_X6_162 : Cond.methodLink RX6 162 yX6_begin ∈ lw_good := lw_good_of (List.mem_of_getElem? (i := 879) rfl) rfl
set_option maxRecDepth 50000 in
theorem kl_L_57 : Cond.methodLink RL 57 yX6_lift ∈ lw_good := lw_good_of (List.mem_of_getElem? (i := 883) rfl) rfl
set_option maxRecDepth 50000 in
theorem kl_L_61 : Cond.methodLink RL 61 yX6_place ∈ lw_good := lw_good_of (List.mem_of_getElem? (i := 887) rfl) rfl
set_option maxRecDepth 50000 in
theorem kl_L_65 : Cond.methodLink RL 65 yX6_overlaps ∈ lw_good := lw_good_of (List.mem_of_getElem? (i := 891) rfl) rfl
set_option maxRecDepth 50000 in
theorem kl_L_69 : Cond.methodLink RL 69 yX6_relative ∈ lw_good := lw_good_of (List.mem_of_getElem? (i := 892) rfl) rfl
set_option maxRecDepth 50000 in
theorem kl_L_73 : Cond.methodLink RL 73 yX6_support ∈ lw_good := lw_good_of (List.mem_of_getElem? (i := 896) rfl) rfl
set_option maxRecDepth 50000 in
theorem kl_X6_171 : Cond.methodLink RX6 171 yX6_common ∈ lw_good := lw_good_of (List.mem_of_getElem? (i := 900) rfl) rfl
set_option maxRecDepth 50000 in
theorem kl_L_77 : Cond.methodLink RL 77 yX6_centre ∈ lw_good := lw_good_of (List.mem_of_getElem? (i := 904) rfl) rfl
set_option maxRecDepth 50000 in
theorem kl_L_81 : Cond.methodLink RL 81 yX6_tree ∈ lw_good := lw_good_of (List.mem_of_getElem? (i := 908) rfl) rfl
set_option maxRecDepth 50000 in
theorem kl_X6_186 : Cond.methodLink RX6 186 yX6_planted ∈ lw_good := lw_good_of (List.mem_of_getElem? (i := 912) rfl) rfl
set_option maxRecDepth 50000 in
theorem kl_X6_177 : Cond.methodLink RX6 177 yX6_firstOf ∈ lw_good := lw_good_of (List.mem_of_getElem? (i := 916) rfl) rfl
set_option maxRecDepth 50000 in
theorem kl_X6_180 : Cond.methodLink RX6 180 yX6_cutOf ∈ lw_good := lw_good_of (List.mem_of_getElem? (i := 919) rfl) rfl
set_option maxRecDepth 50000 in
theorem kl_X6_183 : Cond.methodLink RX6 183 yX6_before ∈ lw_good := lw_good_of (List.mem_of_getElem? (i := 923) rfl) rfl
set_option maxRecDepth 50000 in
theorem kl_L_85 : Cond.methodLink RL 85 yX6_node ∈ lw_good := lw_good_of (List.mem_of_getElem? (i := 927) rfl) rfl
set_option maxRecDepth 50000 in
theorem kl_L_89 : Cond.methodLink RL 89 yX6_dual ∈ lw_good := lw_good_of (List.mem_of_getElem? (i := 931) rfl) rfl
set_option maxRecDepth 50000 in
theorem kl_X6_189 : Cond.methodLink RX6 189 yX6_isDual ∈ lw_good := lw_good_of (List.mem_of_getElem? (i := 935) rfl) rfl
set_option maxRecDepth 50000 in
theorem kl_X6_192 : Cond.methodLink RX6 192 yX6_worth ∈ lw_good := lw_good_of (List.mem_of_getElem? (i := 939) rfl) rfl
set_option maxRecDepth 50000 in
theorem kl_L_94 : Cond.methodLink RL 94 yX6_need ∈ lw_good := lw_good_of (List.mem_of_getElem? (i := 942) rfl) rfl
set_option maxRecDepth 50000 in
theorem kl_X6_195 : Cond.methodLink RX6 195 yX6_has_ ∈ lw_good := lw_good_of (List.mem_of_getElem? (i := 947) rfl) rfl
set_option maxRecDepth 50000 in
theorem kl_X6_200 : Cond.methodLink RX6 200 yX6_needs ∈ lw_good := lw_good_of (List.mem_of_getElem? (i := 951) rfl) rfl
set_option maxRecDepth 50000 in
theorem kl_L_98 : Cond.methodLink RL 98 yX6_proof ∈ lw_good := lw_good_of (List.mem_of_getElem? (i := 955) rfl) rfl
set_option maxRecDepth 50000 in
theorem kl_X6_204 : Cond.methodLink RX6 204 yX6_prove ∈ lw_good := lw_good_of (List.mem_of_getElem? (i := 959) rfl) rfl
set_option maxRecDepth 50000 in
theorem kl_L_102 : Cond.methodLink RL 102 yX6_none ∈ lw_good := lw_good_of (List.mem_of_getElem? (i := 963) rfl) rfl
set_option maxRecDepth 50000 in
theorem kl_X6_207 : Cond.methodLink RX6 207 yX6_isPossible ∈ lw_good := lw_good_of (List.mem_of_getElem? (i := 967) rfl) rfl
set_option maxRecDepth 50000 in
theorem kf_X4_9 : Cond.fieldLink RX4 9 (TX4 0).1 (TX4 0).2.1 (TX4 0).2.2.1 ∈ lw_good := lw_good_of (List.mem_of_getElem? (i := 85) rfl) rfl
set_option maxRecDepth 50000 in
theorem kf_X5_55 : Cond.fieldLink RX5 55 (TX4 0).1 (TX4 0).2.1 (TX4 0).2.2.1 ∈ lw_good := lw_good_of (List.mem_of_getElem? (i := 86) rfl) rfl
set_option maxRecDepth 50000 in
theorem kf_X1_41 : Cond.fieldLink RX1 41 (TX4 0).1 (TX4 0).2.1 (TX4 0).2.2.1 ∈ lw_good := lw_good_of (List.mem_of_getElem? (i := 87) rfl) rfl
set_option maxRecDepth 50000 in
theorem kf_X3_76 : Cond.fieldLink RX3 76 (TX4 0).1 (TX4 0).2.1 (TX4 0).2.2.1 ∈ lw_good := lw_good_of (List.mem_of_getElem? (i := 88) rfl) rfl
set_option maxRecDepth 50000 in
theorem kf_X4_15 : Cond.fieldLink RX4 15 (TX4 1).1 (TX4 1).2.1 (TX4 1).2.2.1 ∈ lw_good := lw_good_of (List.mem_of_getElem? (i := 89) rfl) rfl
set_option maxRecDepth 50000 in
theorem kf_X4_18 : Cond.fieldLink RX4 18 (TX4 2).1 (TX4 2).2.1 (TX4 2).2.2.1 ∈ lw_good := lw_good_of (List.mem_of_getElem? (i := 90) rfl) rfl
set_option maxRecDepth 50000 in
theorem kf_X5_70 : Cond.fieldLink RX5 70 (TX4 2).1 (TX4 2).2.1 (TX4 2).2.2.1 ∈ lw_good := lw_good_of (List.mem_of_getElem? (i := 91) rfl) rfl
set_option maxRecDepth 50000 in
theorem kf_X4_21 : Cond.fieldLink RX4 21 (TX4 3).1 (TX4 3).2.1 (TX4 3).2.2.1 ∈ lw_good := lw_good_of (List.mem_of_getElem? (i := 92) rfl) rfl
set_option maxRecDepth 50000 in
theorem kf_X5_73 : Cond.fieldLink RX5 73 (TX4 3).1 (TX4 3).2.1 (TX4 3).2.2.1 ∈ lw_good := lw_good_of (List.mem_of_getElem? (i := 93) rfl) rfl
set_option maxRecDepth 50000 in
theorem kf_X2_57 : Cond.fieldLink RX2 57 (TX4 3).1 (TX4 3).2.1 (TX4 3).2.2.1 ∈ lw_good := lw_good_of (List.mem_of_getElem? (i := 94) rfl) rfl
set_option maxRecDepth 50000 in
theorem kf_X4_24 : Cond.fieldLink RX4 24 (TX4 4).1 (TX4 4).2.1 (TX4 4).2.2.1 ∈ lw_good := lw_good_of (List.mem_of_getElem? (i := 95) rfl) rfl
set_option maxRecDepth 50000 in
theorem kf_X3_52 : Cond.fieldLink RX3 52 (TX4 4).1 (TX4 4).2.1 (TX4 4).2.2.1 ∈ lw_good := lw_good_of (List.mem_of_getElem? (i := 96) rfl) rfl
set_option maxRecDepth 50000 in
theorem kf_X5_59 : Cond.fieldLink RX5 59 (TX4 4).1 (TX4 4).2.1 (TX4 4).2.2.1 ∈ lw_good := lw_good_of (List.mem_of_getElem? (i := 97) rfl) rfl
set_option maxRecDepth 50000 in
theorem kf_X1_54 : Cond.fieldLink RX1 54 (TX4 4).1 (TX4 4).2.1 (TX4 4).2.2.1 ∈ lw_good := lw_good_of (List.mem_of_getElem? (i := 98) rfl) rfl
set_option maxRecDepth 50000 in
theorem kf_X3_45 : Cond.fieldLink RX3 45 (TX3 0).1 (TX3 0).2.1 (TX3 0).2.2.1 ∈ lw_good := lw_good_of (List.mem_of_getElem? (i := 117) rfl) rfl
set_option maxRecDepth 50000 in
theorem kf_X3_9 : Cond.fieldLink RX3 9 (TX3 1).1 (TX3 1).2.1 (TX3 1).2.2.1 ∈ lw_good := lw_good_of (List.mem_of_getElem? (i := 118) rfl) rfl
set_option maxRecDepth 50000 in
theorem kf_X5_83 : Cond.fieldLink RX5 83 (TX3 1).1 (TX3 1).2.1 (TX3 1).2.2.1 ∈ lw_good := lw_good_of (List.mem_of_getElem? (i := 119) rfl) rfl
set_option maxRecDepth 50000 in
theorem kf_X3_15 : Cond.fieldLink RX3 15 (TX3 2).1 (TX3 2).2.1 (TX3 2).2.2.1 ∈ lw_good := lw_good_of (List.mem_of_getElem? (i := 120) rfl) rfl
set_option maxRecDepth 50000 in
theorem kf_X3_18 : Cond.fieldLink RX3 18 (TX3 3).1 (TX3 3).2.1 (TX3 3).2.2.1 ∈ lw_good := lw_good_of (List.mem_of_getElem? (i := 121) rfl) rfl
set_option maxRecDepth 50000 in
theorem kf_X5_96 : Cond.fieldLink RX5 96 (TX3 3).1 (TX3 3).2.1 (TX3 3).2.2.1 ∈ lw_good := lw_good_of (List.mem_of_getElem? (i := 122) rfl) rfl
set_option maxRecDepth 50000 in
theorem kf_X3_21 : Cond.fieldLink RX3 21 (TX3 4).1 (TX3 4).2.1 (TX3 4).2.2.1 ∈ lw_good := lw_good_of (List.mem_of_getElem? (i := 123) rfl) rfl
set_option maxRecDepth 50000 in
theorem kf_X3_24 : Cond.fieldLink RX3 24 (TX3 5).1 (TX3 5).2.1 (TX3 5).2.2.1 ∈ lw_good := lw_good_of (List.mem_of_getElem? (i := 124) rfl) rfl
set_option maxRecDepth 50000 in
theorem kf_X3_27 : Cond.fieldLink RX3 27 (TX3 6).1 (TX3 6).2.1 (TX3 6).2.2.1 ∈ lw_good := lw_good_of (List.mem_of_getElem? (i := 125) rfl) rfl
set_option maxRecDepth 50000 in
theorem kf_X5_99 : Cond.fieldLink RX5 99 (TX3 6).1 (TX3 6).2.1 (TX3 6).2.2.1 ∈ lw_good := lw_good_of (List.mem_of_getElem? (i := 126) rfl) rfl
set_option maxRecDepth 50000 in
theorem kf_X3_30 : Cond.fieldLink RX3 30 (TX3 7).1 (TX3 7).2.1 (TX3 7).2.2.1 ∈ lw_good := lw_good_of (List.mem_of_getElem? (i := 127) rfl) rfl
set_option maxRecDepth 50000 in
theorem kf_X3_33 : Cond.fieldLink RX3 33 (TX3 8).1 (TX3 8).2.1 (TX3 8).2.2.1 ∈ lw_good := lw_good_of (List.mem_of_getElem? (i := 128) rfl) rfl
set_option maxRecDepth 50000 in
theorem kf_X3_36 : Cond.fieldLink RX3 36 (TX3 9).1 (TX3 9).2.1 (TX3 9).2.2.1 ∈ lw_good := lw_good_of (List.mem_of_getElem? (i := 129) rfl) rfl
set_option maxRecDepth 50000 in
theorem kf_X3_39 : Cond.fieldLink RX3 39 (TX3 10).1 (TX3 10).2.1 (TX3 10).2.2.1 ∈ lw_good := lw_good_of (List.mem_of_getElem? (i := 130) rfl) rfl
set_option maxRecDepth 50000 in
theorem kf_X3_42 : Cond.fieldLink RX3 42 (TX3 11).1 (TX3 11).2.1 (TX3 11).2.2.1 ∈ lw_good := lw_good_of (List.mem_of_getElem? (i := 131) rfl) rfl
set_option maxRecDepth 50000 in
theorem kf_X3_105 : Cond.fieldLink RX3 105 (TX3 12).1 (TX3 12).2.1 (TX3 12).2.2.1 ∈ lw_good := lw_good_of (List.mem_of_getElem? (i := 132) rfl) rfl
set_option maxRecDepth 50000 in
theorem kf_X3_101 : Cond.fieldLink RX3 101 (TX3 13).1 (TX3 13).2.1 (TX3 13).2.2.1 ∈ lw_good := lw_good_of (List.mem_of_getElem? (i := 133) rfl) rfl
set_option maxRecDepth 50000 in
theorem kf_X3_62 : Cond.fieldLink RX3 62 (TX3 14).1 (TX3 14).2.1 (TX3 14).2.2.1 ∈ lw_good := lw_good_of (List.mem_of_getElem? (i := 134) rfl) rfl
set_option maxRecDepth 50000 in
theorem kf_X5_80 : Cond.fieldLink RX5 80 (TX3 14).1 (TX3 14).2.1 (TX3 14).2.2.1 ∈ lw_good := lw_good_of (List.mem_of_getElem? (i := 135) rfl) rfl
set_option maxRecDepth 50000 in
theorem kf_X3_65 : Cond.fieldLink RX3 65 (TX3 15).1 (TX3 15).2.1 (TX3 15).2.2.1 ∈ lw_good := lw_good_of (List.mem_of_getElem? (i := 136) rfl) rfl
set_option maxRecDepth 50000 in
theorem kf_X5_93 : Cond.fieldLink RX5 93 (TX3 15).1 (TX3 15).2.1 (TX3 15).2.2.1 ∈ lw_good := lw_good_of (List.mem_of_getElem? (i := 137) rfl) rfl
set_option maxRecDepth 50000 in
theorem kf_X2_21 : Cond.fieldLink RX2 21 (TX2 0).1 (TX2 0).2.1 (TX2 0).2.2.1 ∈ lw_good := lw_good_of (List.mem_of_getElem? (i := 177) rfl) rfl
set_option maxRecDepth 50000 in
theorem kf_X2_9 : Cond.fieldLink RX2 9 (TX2 1).1 (TX2 1).2.1 (TX2 1).2.2.1 ∈ lw_good := lw_good_of (List.mem_of_getElem? (i := 178) rfl) rfl
set_option maxRecDepth 50000 in
theorem kf_X5_122 : Cond.fieldLink RX5 122 (TX2 1).1 (TX2 1).2.1 (TX2 1).2.2.1 ∈ lw_good := lw_good_of (List.mem_of_getElem? (i := 179) rfl) rfl
set_option maxRecDepth 50000 in
theorem kf_X2_15 : Cond.fieldLink RX2 15 (TX2 2).1 (TX2 2).2.1 (TX2 2).2.2.1 ∈ lw_good := lw_good_of (List.mem_of_getElem? (i := 180) rfl) rfl
set_option maxRecDepth 50000 in
theorem kf_X0_52 : Cond.fieldLink RX0 52 (TX2 2).1 (TX2 2).2.1 (TX2 2).2.2.1 ∈ lw_good := lw_good_of (List.mem_of_getElem? (i := 181) rfl) rfl
set_option maxRecDepth 50000 in
theorem kf_X5_121 : Cond.fieldLink RX5 121 (TX2 2).1 (TX2 2).2.1 (TX2 2).2.2.1 ∈ lw_good := lw_good_of (List.mem_of_getElem? (i := 182) rfl) rfl
set_option maxRecDepth 50000 in
theorem kf_X2_18 : Cond.fieldLink RX2 18 (TX2 3).1 (TX2 3).2.1 (TX2 3).2.2.1 ∈ lw_good := lw_good_of (List.mem_of_getElem? (i := 183) rfl) rfl
set_option maxRecDepth 50000 in
theorem kf_X0_55 : Cond.fieldLink RX0 55 (TX2 3).1 (TX2 3).2.1 (TX2 3).2.2.1 ∈ lw_good := lw_good_of (List.mem_of_getElem? (i := 184) rfl) rfl
set_option maxRecDepth 50000 in
theorem kf_X2_25 : Cond.fieldLink RX2 25 (TX2 4).1 (TX2 4).2.1 (TX2 4).2.2.1 ∈ lw_good := lw_good_of (List.mem_of_getElem? (i := 185) rfl) rfl
set_option maxRecDepth 50000 in
theorem kf_X0_22 : Cond.fieldLink RX0 22 (TX2 4).1 (TX2 4).2.1 (TX2 4).2.2.1 ∈ lw_good := lw_good_of (List.mem_of_getElem? (i := 186) rfl) rfl
set_option maxRecDepth 50000 in
theorem kf_X0_18 : Cond.fieldLink RX0 18 (TX0 0).1 (TX0 0).2.1 (TX0 0).2.2.1 ∈ lw_good := lw_good_of (List.mem_of_getElem? (i := 204) rfl) rfl
set_option maxRecDepth 50000 in
theorem kf_X0_9 : Cond.fieldLink RX0 9 (TX0 1).1 (TX0 1).2.1 (TX0 1).2.2.1 ∈ lw_good := lw_good_of (List.mem_of_getElem? (i := 205) rfl) rfl
set_option maxRecDepth 50000 in
theorem kf_X5_149 : Cond.fieldLink RX5 149 (TX0 1).1 (TX0 1).2.1 (TX0 1).2.2.1 ∈ lw_good := lw_good_of (List.mem_of_getElem? (i := 206) rfl) rfl
set_option maxRecDepth 50000 in
theorem kf_X0_15 : Cond.fieldLink RX0 15 (TX0 2).1 (TX0 2).2.1 (TX0 2).2.2.1 ∈ lw_good := lw_good_of (List.mem_of_getElem? (i := 207) rfl) rfl
set_option maxRecDepth 50000 in
theorem kf_X1_30 : Cond.fieldLink RX1 30 (TX1 0).1 (TX1 0).2.1 (TX1 0).2.2.1 ∈ lw_good := lw_good_of (List.mem_of_getElem? (i := 221) rfl) rfl
set_option maxRecDepth 50000 in
theorem kf_X1_9 : Cond.fieldLink RX1 9 (TX1 1).1 (TX1 1).2.1 (TX1 1).2.2.1 ∈ lw_good := lw_good_of (List.mem_of_getElem? (i := 222) rfl) rfl
set_option maxRecDepth 50000 in
theorem kf_X5_181 : Cond.fieldLink RX5 181 (TX1 1).1 (TX1 1).2.1 (TX1 1).2.2.1 ∈ lw_good := lw_good_of (List.mem_of_getElem? (i := 223) rfl) rfl
set_option maxRecDepth 50000 in
theorem kf_X1_15 : Cond.fieldLink RX1 15 (TX1 2).1 (TX1 2).2.1 (TX1 2).2.2.1 ∈ lw_good := lw_good_of (List.mem_of_getElem? (i := 224) rfl) rfl
set_option maxRecDepth 50000 in
theorem kf_X1_18 : Cond.fieldLink RX1 18 (TX1 3).1 (TX1 3).2.1 (TX1 3).2.2.1 ∈ lw_good := lw_good_of (List.mem_of_getElem? (i := 225) rfl) rfl
set_option maxRecDepth 50000 in
theorem kf_X1_21 : Cond.fieldLink RX1 21 (TX1 4).1 (TX1 4).2.1 (TX1 4).2.2.1 ∈ lw_good := lw_good_of (List.mem_of_getElem? (i := 226) rfl) rfl
set_option maxRecDepth 50000 in
theorem kf_X1_24 : Cond.fieldLink RX1 24 (TX1 5).1 (TX1 5).2.1 (TX1 5).2.2.1 ∈ lw_good := lw_good_of (List.mem_of_getElem? (i := 227) rfl) rfl
set_option maxRecDepth 50000 in
theorem kf_X1_73 : Cond.fieldLink RX1 73 (TX1 6).1 (TX1 6).2.1 (TX1 6).2.2.1 ∈ lw_good := lw_good_of (List.mem_of_getElem? (i := 228) rfl) rfl
set_option maxRecDepth 50000 in
theorem kf_X1_27 : Cond.fieldLink RX1 27 (TX1 7).1 (TX1 7).2.1 (TX1 7).2.2.1 ∈ lw_good := lw_good_of (List.mem_of_getElem? (i := 229) rfl) rfl
set_option maxRecDepth 50000 in
theorem kf_X1_34 : Cond.fieldLink RX1 34 (TX1 8).1 (TX1 8).2.1 (TX1 8).2.2.1 ∈ lw_good := lw_good_of (List.mem_of_getElem? (i := 230) rfl) rfl
set_option maxRecDepth 50000 in
theorem kf_X1_38 : Cond.fieldLink RX1 38 (TX1 9).1 (TX1 9).2.1 (TX1 9).2.2.1 ∈ lw_good := lw_good_of (List.mem_of_getElem? (i := 231) rfl) rfl
set_option maxRecDepth 50000 in
theorem kf_X4_28 : Cond.fieldLink RX4 28 "PlaceRectangles$Stock" "SIDES_OF_TURNS" "[I" ∈ lw_good := lw_good_of (List.mem_of_getElem? (i := 285) rfl) rfl
set_option maxRecDepth 50000 in
theorem kf_X5_12 : Cond.fieldLink RX5 12 (TX5 0).1 (TX5 0).2.1 (TX5 0).2.2.1 ∈ lw_good := lw_good_of (List.mem_of_getElem? (i := 299) rfl) rfl
set_option maxRecDepth 50000 in
theorem kf_X5_21 : Cond.fieldLink RX5 21 (TX5 1).1 (TX5 1).2.1 (TX5 1).2.2.1 ∈ lw_good := lw_good_of (List.mem_of_getElem? (i := 300) rfl) rfl
set_option maxRecDepth 50000 in
theorem kf_X5_28 : Cond.fieldLink RX5 28 (TX5 2).1 (TX5 2).2.1 (TX5 2).2.2.1 ∈ lw_good := lw_good_of (List.mem_of_getElem? (i := 301) rfl) rfl
set_option maxRecDepth 50000 in
theorem kf_X5_37 : Cond.fieldLink RX5 37 (TX5 3).1 (TX5 3).2.1 (TX5 3).2.2.1 ∈ lw_good := lw_good_of (List.mem_of_getElem? (i := 302) rfl) rfl
set_option maxRecDepth 50000 in
theorem kf_X5_44 : Cond.fieldLink RX5 44 (TX5 4).1 (TX5 4).2.1 (TX5 4).2.2.1 ∈ lw_good := lw_good_of (List.mem_of_getElem? (i := 303) rfl) rfl
set_option maxRecDepth 50000 in
theorem kf_X6_7 : Cond.fieldLink RX6 7 (TX6 0).1 (TX6 0).2.1 (TX6 0).2.2.1 ∈ lw_good := lw_good_of (List.mem_of_getElem? (i := 713) rfl) rfl
set_option maxRecDepth 50000 in
theorem kf_X6_81 : Cond.fieldLink RX6 81 (TX6 1).1 (TX6 1).2.1 (TX6 1).2.2.1 ∈ lw_good := lw_good_of (List.mem_of_getElem? (i := 714) rfl) rfl
set_option maxRecDepth 50000 in
theorem kf_X6_13 : Cond.fieldLink RX6 13 (TX6 2).1 (TX6 2).2.1 (TX6 2).2.2.1 ∈ lw_good := lw_good_of (List.mem_of_getElem? (i := 715) rfl) rfl
set_option maxRecDepth 50000 in
theorem kf_X6_16 : Cond.fieldLink RX6 16 (TX6 3).1 (TX6 3).2.1 (TX6 3).2.2.1 ∈ lw_good := lw_good_of (List.mem_of_getElem? (i := 716) rfl) rfl
set_option maxRecDepth 50000 in
theorem kf_X6_19 : Cond.fieldLink RX6 19 (TX6 4).1 (TX6 4).2.1 (TX6 4).2.2.1 ∈ lw_good := lw_good_of (List.mem_of_getElem? (i := 717) rfl) rfl
set_option maxRecDepth 50000 in
theorem kf_X6_22 : Cond.fieldLink RX6 22 (TX6 5).1 (TX6 5).2.1 (TX6 5).2.2.1 ∈ lw_good := lw_good_of (List.mem_of_getElem? (i := 718) rfl) rfl
set_option maxRecDepth 50000 in
theorem kf_X6_25 : Cond.fieldLink RX6 25 (TX6 6).1 (TX6 6).2.1 (TX6 6).2.2.1 ∈ lw_good := lw_good_of (List.mem_of_getElem? (i := 719) rfl) rfl
set_option maxRecDepth 50000 in
theorem kf_X6_85 : Cond.fieldLink RX6 85 (TX6 7).1 (TX6 7).2.1 (TX6 7).2.2.1 ∈ lw_good := lw_good_of (List.mem_of_getElem? (i := 720) rfl) rfl
set_option maxRecDepth 50000 in
theorem kf_X6_88 : Cond.fieldLink RX6 88 (TX6 8).1 (TX6 8).2.1 (TX6 8).2.2.1 ∈ lw_good := lw_good_of (List.mem_of_getElem? (i := 721) rfl) rfl
set_option maxRecDepth 50000 in
theorem kf_X6_91 : Cond.fieldLink RX6 91 (TX6 9).1 (TX6 9).2.1 (TX6 9).2.2.1 ∈ lw_good := lw_good_of (List.mem_of_getElem? (i := 722) rfl) rfl
set_option maxRecDepth 50000 in
theorem kf_X6_28 : Cond.fieldLink RX6 28 (TX6 10).1 (TX6 10).2.1 (TX6 10).2.2.1 ∈ lw_good := lw_good_of (List.mem_of_getElem? (i := 723) rfl) rfl
set_option maxRecDepth 50000 in
theorem kf_X6_31 : Cond.fieldLink RX6 31 (TX6 11).1 (TX6 11).2.1 (TX6 11).2.2.1 ∈ lw_good := lw_good_of (List.mem_of_getElem? (i := 724) rfl) rfl
set_option maxRecDepth 50000 in
theorem kf_X6_34 : Cond.fieldLink RX6 34 (TX6 12).1 (TX6 12).2.1 (TX6 12).2.2.1 ∈ lw_good := lw_good_of (List.mem_of_getElem? (i := 725) rfl) rfl
set_option maxRecDepth 50000 in
theorem kf_X6_37 : Cond.fieldLink RX6 37 (TX6 13).1 (TX6 13).2.1 (TX6 13).2.2.1 ∈ lw_good := lw_good_of (List.mem_of_getElem? (i := 726) rfl) rfl
set_option maxRecDepth 50000 in
theorem kf_X6_40 : Cond.fieldLink RX6 40 (TX6 14).1 (TX6 14).2.1 (TX6 14).2.2.1 ∈ lw_good := lw_good_of (List.mem_of_getElem? (i := 727) rfl) rfl
set_option maxRecDepth 50000 in
theorem kf_X6_44 : Cond.fieldLink RX6 44 (TX6 15).1 (TX6 15).2.1 (TX6 15).2.2.1 ∈ lw_good := lw_good_of (List.mem_of_getElem? (i := 728) rfl) rfl
set_option maxRecDepth 50000 in
theorem kf_X6_47 : Cond.fieldLink RX6 47 (TX6 16).1 (TX6 16).2.1 (TX6 16).2.2.1 ∈ lw_good := lw_good_of (List.mem_of_getElem? (i := 729) rfl) rfl
set_option maxRecDepth 50000 in
theorem kf_X6_50 : Cond.fieldLink RX6 50 (TX6 17).1 (TX6 17).2.1 (TX6 17).2.2.1 ∈ lw_good := lw_good_of (List.mem_of_getElem? (i := 730) rfl) rfl
set_option maxRecDepth 50000 in
theorem kf_X6_53 : Cond.fieldLink RX6 53 (TX6 18).1 (TX6 18).2.1 (TX6 18).2.2.1 ∈ lw_good := lw_good_of (List.mem_of_getElem? (i := 731) rfl) rfl
set_option maxRecDepth 50000 in
theorem kf_X6_56 : Cond.fieldLink RX6 56 (TX6 19).1 (TX6 19).2.1 (TX6 19).2.2.1 ∈ lw_good := lw_good_of (List.mem_of_getElem? (i := 732) rfl) rfl
set_option maxRecDepth 50000 in
theorem kf_X6_59 : Cond.fieldLink RX6 59 (TX6 20).1 (TX6 20).2.1 (TX6 20).2.2.1 ∈ lw_good := lw_good_of (List.mem_of_getElem? (i := 733) rfl) rfl
set_option maxRecDepth 50000 in
theorem kf_X6_174 : Cond.fieldLink RX6 174 (TX6 21).1 (TX6 21).2.1 (TX6 21).2.2.1 ∈ lw_good := lw_good_of (List.mem_of_getElem? (i := 734) rfl) rfl
set_option maxRecDepth 50000 in
theorem kf_X6_62 : Cond.fieldLink RX6 62 (TX6 22).1 (TX6 22).2.1 (TX6 22).2.2.1 ∈ lw_good := lw_good_of (List.mem_of_getElem? (i := 735) rfl) rfl
set_option maxRecDepth 50000 in
theorem kf_X6_65 : Cond.fieldLink RX6 65 (TX6 23).1 (TX6 23).2.1 (TX6 23).2.2.1 ∈ lw_good := lw_good_of (List.mem_of_getElem? (i := 736) rfl) rfl
set_option maxRecDepth 50000 in
theorem kf_X6_68 : Cond.fieldLink RX6 68 (TX6 24).1 (TX6 24).2.1 (TX6 24).2.2.1 ∈ lw_good := lw_good_of (List.mem_of_getElem? (i := 737) rfl) rfl
set_option maxRecDepth 50000 in
theorem kf_X6_114 : Cond.fieldLink RX6 114 (TX6 25).1 (TX6 25).2.1 (TX6 25).2.2.1 ∈ lw_good := lw_good_of (List.mem_of_getElem? (i := 738) rfl) rfl
set_option maxRecDepth 50000 in
theorem kf_X6_71 : Cond.fieldLink RX6 71 (TX6 26).1 (TX6 26).2.1 (TX6 26).2.2.1 ∈ lw_good := lw_good_of (List.mem_of_getElem? (i := 739) rfl) rfl
set_option maxRecDepth 50000 in
theorem kk_X3_104 : Cond.constant RX3 104 (iI (1000000)) ∈ lw_good := lw_good_of (List.mem_of_getElem? (i := 354) rfl) rfl
set_option maxRecDepth 50000 in
theorem kk_J6_265 : Cond.constant RJ6 265 (iI (1431655765)) ∈ lw_good := lw_good_of (List.mem_of_getElem? (i := 362) rfl) rfl
set_option maxRecDepth 50000 in
theorem kk_J6_266 : Cond.constant RJ6 266 (iI (858993459)) ∈ lw_good := lw_good_of (List.mem_of_getElem? (i := 363) rfl) rfl
set_option maxRecDepth 50000 in
theorem kk_J6_267 : Cond.constant RJ6 267 (iI (252645135)) ∈ lw_good := lw_good_of (List.mem_of_getElem? (i := 364) rfl) rfl
set_option maxRecDepth 50000 in
theorem kk_X5_160 : Cond.constantLong RX5 160 (iL (-1)) ∈ lw_good := lw_good_of (List.mem_of_getElem? (i := 584) rfl) rfl
set_option maxRecDepth 50000 in
theorem kk_X6_198 : Cond.constantLong RX6 198 (iL (-1)) ∈ lw_good := lw_good_of (List.mem_of_getElem? (i := 946) rfl) rfl
end
section
theorem g_X4_9 {E : jEnv} {G : jG} {cc : ByteArray} {nL fr lo pc : Nat} {lv : List (Nat × Value)} {st : List Value} {S : jMem} (hG : cG G) (C : jX E G cc nL RX4 fr lo) (hd : decode cc pc = .ok (.getfield 9, 3)) (kk : J E G (pc + 3) lv (.ref (jad G 2) :: st) S) : J E G pc lv (.ref (jad G 1) :: st) S := J_get (k := 1) (j := 0) (c := 4) C (by rw [hG.2]; decide) (by rw [hG.1]; rfl) rfl ku_X4 (by decide) kf_X4_9 rfl hd kk
theorem g_X5_55 {E : jEnv} {G : jG} {cc : ByteArray} {nL fr lo pc : Nat} {lv : List (Nat × Value)} {st : List Value} {S : jMem} (hG : cG G) (C : jX E G cc nL RX5 fr lo) (hd : decode cc pc = .ok (.getfield 55, 3)) (kk : J E G (pc + 3) lv (.ref (jad G 2) :: st) S) : J E G pc lv (.ref (jad G 1) :: st) S := J_get (k := 1) (j := 0) (c := 4) C (by rw [hG.2]; decide) (by rw [hG.1]; rfl) rfl ku_X4 (by decide) kf_X5_55 rfl hd kk
theorem g_X1_41 {E : jEnv} {G : jG} {cc : ByteArray} {nL fr lo pc : Nat} {lv : List (Nat × Value)} {st : List Value} {S : jMem} (hG : cG G) (C : jX E G cc nL RX1 fr lo) (hd : decode cc pc = .ok (.getfield 41, 3)) (kk : J E G (pc + 3) lv (.ref (jad G 2) :: st) S) : J E G pc lv (.ref (jad G 1) :: st) S := J_get (k := 1) (j := 0) (c := 4) C (by rw [hG.2]; decide) (by rw [hG.1]; rfl) rfl ku_X4 (by decide) kf_X1_41 rfl hd kk
theorem g_X3_76 {E : jEnv} {G : jG} {cc : ByteArray} {nL fr lo pc : Nat} {lv : List (Nat × Value)} {st : List Value} {S : jMem} (hG : cG G) (C : jX E G cc nL RX3 fr lo) (hd : decode cc pc = .ok (.getfield 76, 3)) (kk : J E G (pc + 3) lv (.ref (jad G 2) :: st) S) : J E G pc lv (.ref (jad G 1) :: st) S := J_get (k := 1) (j := 0) (c := 4) C (by rw [hG.2]; decide) (by rw [hG.1]; rfl) rfl ku_X4 (by decide) kf_X3_76 rfl hd kk
theorem g_X4_15 {E : jEnv} {G : jG} {cc : ByteArray} {nL fr lo pc : Nat} {lv : List (Nat × Value)} {st : List Value} {S : jMem} (hG : cG G) (C : jX E G cc nL RX4 fr lo) (hd : decode cc pc = .ok (.getfield 15, 3)) (kk : J E G (pc + 3) lv (.ref (jad G 3) :: st) S) : J E G pc lv (.ref (jad G 1) :: st) S := J_get (k := 1) (j := 1) (c := 5) C (by rw [hG.2]; decide) (by rw [hG.1]; rfl) rfl ku_X4 (by decide) kf_X4_15 rfl hd kk
theorem g_X4_18 {E : jEnv} {G : jG} {cc : ByteArray} {nL fr lo pc : Nat} {lv : List (Nat × Value)} {st : List Value} {S : jMem} (hG : cG G) (C : jX E G cc nL RX4 fr lo) (hd : decode cc pc = .ok (.getfield 18, 3)) (kk : J E G (pc + 3) lv (.ref (jad G 4) :: st) S) : J E G pc lv (.ref (jad G 1) :: st) S := J_get (k := 1) (j := 2) (c := 6) C (by rw [hG.2]; decide) (by rw [hG.1]; rfl) rfl ku_X4 (by decide) kf_X4_18 rfl hd kk
theorem g_X5_70 {E : jEnv} {G : jG} {cc : ByteArray} {nL fr lo pc : Nat} {lv : List (Nat × Value)} {st : List Value} {S : jMem} (hG : cG G) (C : jX E G cc nL RX5 fr lo) (hd : decode cc pc = .ok (.getfield 70, 3)) (kk : J E G (pc + 3) lv (.ref (jad G 4) :: st) S) : J E G pc lv (.ref (jad G 1) :: st) S := J_get (k := 1) (j := 2) (c := 6) C (by rw [hG.2]; decide) (by rw [hG.1]; rfl) rfl ku_X4 (by decide) kf_X5_70 rfl hd kk
theorem g_X4_21 {E : jEnv} {G : jG} {cc : ByteArray} {nL fr lo pc : Nat} {lv : List (Nat × Value)} {st : List Value} {S : jMem} (hG : cG G) (C : jX E G cc nL RX4 fr lo) (hd : decode cc pc = .ok (.getfield 21, 3)) (kk : J E G (pc + 3) lv (.ref (jad G 5) :: st) S) : J E G pc lv (.ref (jad G 1) :: st) S := J_get (k := 1) (j := 3) (c := 7) C (by rw [hG.2]; decide) (by rw [hG.1]; rfl) rfl ku_X4 (by decide) kf_X4_21 rfl hd kk
theorem g_X5_73 {E : jEnv} {G : jG} {cc : ByteArray} {nL fr lo pc : Nat} {lv : List (Nat × Value)} {st : List Value} {S : jMem} (hG : cG G) (C : jX E G cc nL RX5 fr lo) (hd : decode cc pc = .ok (.getfield 73, 3)) (kk : J E G (pc + 3) lv (.ref (jad G 5) :: st) S) : J E G pc lv (.ref (jad G 1) :: st) S := J_get (k := 1) (j := 3) (c := 7) C (by rw [hG.2]; decide) (by rw [hG.1]; rfl) rfl ku_X4 (by decide) kf_X5_73 rfl hd kk
theorem g_X2_57 {E : jEnv} {G : jG} {cc : ByteArray} {nL fr lo pc : Nat} {lv : List (Nat × Value)} {st : List Value} {S : jMem} (hG : cG G) (C : jX E G cc nL RX2 fr lo) (hd : decode cc pc = .ok (.getfield 57, 3)) (kk : J E G (pc + 3) lv (.ref (jad G 5) :: st) S) : J E G pc lv (.ref (jad G 1) :: st) S := J_get (k := 1) (j := 3) (c := 7) C (by rw [hG.2]; decide) (by rw [hG.1]; rfl) rfl ku_X4 (by decide) kf_X2_57 rfl hd kk
theorem g_X4_24 {E : jEnv} {G : jG} {cc : ByteArray} {nL fr lo pc : Nat} {lv : List (Nat × Value)} {st : List Value} {S : jMem} (hG : cG G) (C : jX E G cc nL RX4 fr lo) (hd : decode cc pc = .ok (.getfield 24, 3)) (kk : J E G (pc + 3) lv (.int (iI (S 1 4)) :: st) S) : J E G pc lv (.ref (jad G 1) :: st) S := J_get (k := 1) (j := 4) (c := 0) C (by rw [hG.2]; decide) (by rw [hG.1]; rfl) rfl ku_X4 (by decide) kf_X4_24 rfl hd kk
theorem p_X4_24 {E : jEnv} {G : jG} {cc : ByteArray} {nL fr lo pc : Nat} {lv : List (Nat × Value)} {st : List Value} {S : jMem} {x : Int} (hG : cG G) (C : jX E G cc nL RX4 fr lo) (hd : decode cc pc = .ok (.putfield 24, 3)) (kk : J E G (pc + 3) lv st (up2 S 1 4 x)) : J E G pc lv (.int (iI x) :: .ref (jad G 1) :: st) S := J_put (k := 1) (j := 4) (c := 0) C (by rw [hG.2]; decide) (by rw [hG.1]; rfl) rfl ku_X4 tyX4 tyX4_ok nmX4 (by decide) kf_X4_24 rfl rfl rfl rfl hd kk
theorem g_X3_52 {E : jEnv} {G : jG} {cc : ByteArray} {nL fr lo pc : Nat} {lv : List (Nat × Value)} {st : List Value} {S : jMem} (hG : cG G) (C : jX E G cc nL RX3 fr lo) (hd : decode cc pc = .ok (.getfield 52, 3)) (kk : J E G (pc + 3) lv (.int (iI (S 1 4)) :: st) S) : J E G pc lv (.ref (jad G 1) :: st) S := J_get (k := 1) (j := 4) (c := 0) C (by rw [hG.2]; decide) (by rw [hG.1]; rfl) rfl ku_X4 (by decide) kf_X3_52 rfl hd kk
theorem p_X3_52 {E : jEnv} {G : jG} {cc : ByteArray} {nL fr lo pc : Nat} {lv : List (Nat × Value)} {st : List Value} {S : jMem} {x : Int} (hG : cG G) (C : jX E G cc nL RX3 fr lo) (hd : decode cc pc = .ok (.putfield 52, 3)) (kk : J E G (pc + 3) lv st (up2 S 1 4 x)) : J E G pc lv (.int (iI x) :: .ref (jad G 1) :: st) S := J_put (k := 1) (j := 4) (c := 0) C (by rw [hG.2]; decide) (by rw [hG.1]; rfl) rfl ku_X4 tyX4 tyX4_ok nmX4 (by decide) kf_X3_52 rfl rfl rfl rfl hd kk
theorem g_X5_59 {E : jEnv} {G : jG} {cc : ByteArray} {nL fr lo pc : Nat} {lv : List (Nat × Value)} {st : List Value} {S : jMem} (hG : cG G) (C : jX E G cc nL RX5 fr lo) (hd : decode cc pc = .ok (.getfield 59, 3)) (kk : J E G (pc + 3) lv (.int (iI (S 1 4)) :: st) S) : J E G pc lv (.ref (jad G 1) :: st) S := J_get (k := 1) (j := 4) (c := 0) C (by rw [hG.2]; decide) (by rw [hG.1]; rfl) rfl ku_X4 (by decide) kf_X5_59 rfl hd kk
theorem p_X5_59 {E : jEnv} {G : jG} {cc : ByteArray} {nL fr lo pc : Nat} {lv : List (Nat × Value)} {st : List Value} {S : jMem} {x : Int} (hG : cG G) (C : jX E G cc nL RX5 fr lo) (hd : decode cc pc = .ok (.putfield 59, 3)) (kk : J E G (pc + 3) lv st (up2 S 1 4 x)) : J E G pc lv (.int (iI x) :: .ref (jad G 1) :: st) S := J_put (k := 1) (j := 4) (c := 0) C (by rw [hG.2]; decide) (by rw [hG.1]; rfl) rfl ku_X4 tyX4 tyX4_ok nmX4 (by decide) kf_X5_59 rfl rfl rfl rfl hd kk
theorem g_X1_54 {E : jEnv} {G : jG} {cc : ByteArray} {nL fr lo pc : Nat} {lv : List (Nat × Value)} {st : List Value} {S : jMem} (hG : cG G) (C : jX E G cc nL RX1 fr lo) (hd : decode cc pc = .ok (.getfield 54, 3)) (kk : J E G (pc + 3) lv (.int (iI (S 1 4)) :: st) S) : J E G pc lv (.ref (jad G 1) :: st) S := J_get (k := 1) (j := 4) (c := 0) C (by rw [hG.2]; decide) (by rw [hG.1]; rfl) rfl ku_X4 (by decide) kf_X1_54 rfl hd kk
theorem p_X1_54 {E : jEnv} {G : jG} {cc : ByteArray} {nL fr lo pc : Nat} {lv : List (Nat × Value)} {st : List Value} {S : jMem} {x : Int} (hG : cG G) (C : jX E G cc nL RX1 fr lo) (hd : decode cc pc = .ok (.putfield 54, 3)) (kk : J E G (pc + 3) lv st (up2 S 1 4 x)) : J E G pc lv (.int (iI x) :: .ref (jad G 1) :: st) S := J_put (k := 1) (j := 4) (c := 0) C (by rw [hG.2]; decide) (by rw [hG.1]; rfl) rfl ku_X4 tyX4 tyX4_ok nmX4 (by decide) kf_X1_54 rfl rfl rfl rfl hd kk
theorem g_X3_45 {E : jEnv} {G : jG} {cc : ByteArray} {nL fr lo pc : Nat} {lv : List (Nat × Value)} {st : List Value} {S : jMem} (hG : cG G) (C : jX E G cc nL RX3 fr lo) (hd : decode cc pc = .ok (.getfield 45, 3)) (kk : J E G (pc + 3) lv (.ref (jad G 1) :: st) S) : J E G pc lv (.ref (jad G 6) :: st) S := J_get (k := 6) (j := 0) (c := 3) C (by rw [hG.2]; decide) (by rw [hG.1]; rfl) rfl ku_X3 (by decide) kf_X3_45 rfl hd kk
theorem g_X3_9 {E : jEnv} {G : jG} {cc : ByteArray} {nL fr lo pc : Nat} {lv : List (Nat × Value)} {st : List Value} {S : jMem} (hG : cG G) (C : jX E G cc nL RX3 fr lo) (hd : decode cc pc = .ok (.getfield 9, 3)) (kk : J E G (pc + 3) lv (.ref (jad G 7) :: st) S) : J E G pc lv (.ref (jad G 6) :: st) S := J_get (k := 6) (j := 1) (c := 9) C (by rw [hG.2]; decide) (by rw [hG.1]; rfl) rfl ku_X3 (by decide) kf_X3_9 rfl hd kk
theorem g_X5_83 {E : jEnv} {G : jG} {cc : ByteArray} {nL fr lo pc : Nat} {lv : List (Nat × Value)} {st : List Value} {S : jMem} (hG : cG G) (C : jX E G cc nL RX5 fr lo) (hd : decode cc pc = .ok (.getfield 83, 3)) (kk : J E G (pc + 3) lv (.ref (jad G 7) :: st) S) : J E G pc lv (.ref (jad G 6) :: st) S := J_get (k := 6) (j := 1) (c := 9) C (by rw [hG.2]; decide) (by rw [hG.1]; rfl) rfl ku_X3 (by decide) kf_X5_83 rfl hd kk
theorem g_X3_15 {E : jEnv} {G : jG} {cc : ByteArray} {nL fr lo pc : Nat} {lv : List (Nat × Value)} {st : List Value} {S : jMem} (hG : cG G) (C : jX E G cc nL RX3 fr lo) (hd : decode cc pc = .ok (.getfield 15, 3)) (kk : J E G (pc + 3) lv (.ref (jad G 8) :: st) S) : J E G pc lv (.ref (jad G 6) :: st) S := J_get (k := 6) (j := 2) (c := 10) C (by rw [hG.2]; decide) (by rw [hG.1]; rfl) rfl ku_X3 (by decide) kf_X3_15 rfl hd kk
theorem g_X3_18 {E : jEnv} {G : jG} {cc : ByteArray} {nL fr lo pc : Nat} {lv : List (Nat × Value)} {st : List Value} {S : jMem} (hG : cG G) (C : jX E G cc nL RX3 fr lo) (hd : decode cc pc = .ok (.getfield 18, 3)) (kk : J E G (pc + 3) lv (.ref (jad G 9) :: st) S) : J E G pc lv (.ref (jad G 6) :: st) S := J_get (k := 6) (j := 3) (c := 11) C (by rw [hG.2]; decide) (by rw [hG.1]; rfl) rfl ku_X3 (by decide) kf_X3_18 rfl hd kk
theorem g_X5_96 {E : jEnv} {G : jG} {cc : ByteArray} {nL fr lo pc : Nat} {lv : List (Nat × Value)} {st : List Value} {S : jMem} (hG : cG G) (C : jX E G cc nL RX5 fr lo) (hd : decode cc pc = .ok (.getfield 96, 3)) (kk : J E G (pc + 3) lv (.ref (jad G 9) :: st) S) : J E G pc lv (.ref (jad G 6) :: st) S := J_get (k := 6) (j := 3) (c := 11) C (by rw [hG.2]; decide) (by rw [hG.1]; rfl) rfl ku_X3 (by decide) kf_X5_96 rfl hd kk
theorem g_X3_21 {E : jEnv} {G : jG} {cc : ByteArray} {nL fr lo pc : Nat} {lv : List (Nat × Value)} {st : List Value} {S : jMem} (hG : cG G) (C : jX E G cc nL RX3 fr lo) (hd : decode cc pc = .ok (.getfield 21, 3)) (kk : J E G (pc + 3) lv (.ref (jad G 10) :: st) S) : J E G pc lv (.ref (jad G 6) :: st) S := J_get (k := 6) (j := 4) (c := 12) C (by rw [hG.2]; decide) (by rw [hG.1]; rfl) rfl ku_X3 (by decide) kf_X3_21 rfl hd kk
theorem g_X3_24 {E : jEnv} {G : jG} {cc : ByteArray} {nL fr lo pc : Nat} {lv : List (Nat × Value)} {st : List Value} {S : jMem} (hG : cG G) (C : jX E G cc nL RX3 fr lo) (hd : decode cc pc = .ok (.getfield 24, 3)) (kk : J E G (pc + 3) lv (.ref (jad G 11) :: st) S) : J E G pc lv (.ref (jad G 6) :: st) S := J_get (k := 6) (j := 5) (c := 13) C (by rw [hG.2]; decide) (by rw [hG.1]; rfl) rfl ku_X3 (by decide) kf_X3_24 rfl hd kk
theorem g_X3_27 {E : jEnv} {G : jG} {cc : ByteArray} {nL fr lo pc : Nat} {lv : List (Nat × Value)} {st : List Value} {S : jMem} (hG : cG G) (C : jX E G cc nL RX3 fr lo) (hd : decode cc pc = .ok (.getfield 27, 3)) (kk : J E G (pc + 3) lv (.ref (jad G 12) :: st) S) : J E G pc lv (.ref (jad G 6) :: st) S := J_get (k := 6) (j := 6) (c := 14) C (by rw [hG.2]; decide) (by rw [hG.1]; rfl) rfl ku_X3 (by decide) kf_X3_27 rfl hd kk
theorem g_X5_99 {E : jEnv} {G : jG} {cc : ByteArray} {nL fr lo pc : Nat} {lv : List (Nat × Value)} {st : List Value} {S : jMem} (hG : cG G) (C : jX E G cc nL RX5 fr lo) (hd : decode cc pc = .ok (.getfield 99, 3)) (kk : J E G (pc + 3) lv (.ref (jad G 12) :: st) S) : J E G pc lv (.ref (jad G 6) :: st) S := J_get (k := 6) (j := 6) (c := 14) C (by rw [hG.2]; decide) (by rw [hG.1]; rfl) rfl ku_X3 (by decide) kf_X5_99 rfl hd kk
theorem g_X3_30 {E : jEnv} {G : jG} {cc : ByteArray} {nL fr lo pc : Nat} {lv : List (Nat × Value)} {st : List Value} {S : jMem} (hG : cG G) (C : jX E G cc nL RX3 fr lo) (hd : decode cc pc = .ok (.getfield 30, 3)) (kk : J E G (pc + 3) lv (.ref (jad G 13) :: st) S) : J E G pc lv (.ref (jad G 6) :: st) S := J_get (k := 6) (j := 7) (c := 15) C (by rw [hG.2]; decide) (by rw [hG.1]; rfl) rfl ku_X3 (by decide) kf_X3_30 rfl hd kk
theorem g_X3_33 {E : jEnv} {G : jG} {cc : ByteArray} {nL fr lo pc : Nat} {lv : List (Nat × Value)} {st : List Value} {S : jMem} (hG : cG G) (C : jX E G cc nL RX3 fr lo) (hd : decode cc pc = .ok (.getfield 33, 3)) (kk : J E G (pc + 3) lv (.ref (jad G 14) :: st) S) : J E G pc lv (.ref (jad G 6) :: st) S := J_get (k := 6) (j := 8) (c := 16) C (by rw [hG.2]; decide) (by rw [hG.1]; rfl) rfl ku_X3 (by decide) kf_X3_33 rfl hd kk
theorem g_X3_36 {E : jEnv} {G : jG} {cc : ByteArray} {nL fr lo pc : Nat} {lv : List (Nat × Value)} {st : List Value} {S : jMem} (hG : cG G) (C : jX E G cc nL RX3 fr lo) (hd : decode cc pc = .ok (.getfield 36, 3)) (kk : J E G (pc + 3) lv (.ref (jad G 15) :: st) S) : J E G pc lv (.ref (jad G 6) :: st) S := J_get (k := 6) (j := 9) (c := 17) C (by rw [hG.2]; decide) (by rw [hG.1]; rfl) rfl ku_X3 (by decide) kf_X3_36 rfl hd kk
theorem g_X3_39 {E : jEnv} {G : jG} {cc : ByteArray} {nL fr lo pc : Nat} {lv : List (Nat × Value)} {st : List Value} {S : jMem} (hG : cG G) (C : jX E G cc nL RX3 fr lo) (hd : decode cc pc = .ok (.getfield 39, 3)) (kk : J E G (pc + 3) lv (.ref (jad G 16) :: st) S) : J E G pc lv (.ref (jad G 6) :: st) S := J_get (k := 6) (j := 10) (c := 18) C (by rw [hG.2]; decide) (by rw [hG.1]; rfl) rfl ku_X3 (by decide) kf_X3_39 rfl hd kk
theorem g_X3_42 {E : jEnv} {G : jG} {cc : ByteArray} {nL fr lo pc : Nat} {lv : List (Nat × Value)} {st : List Value} {S : jMem} (hG : cG G) (C : jX E G cc nL RX3 fr lo) (hd : decode cc pc = .ok (.getfield 42, 3)) (kk : J E G (pc + 3) lv (.ref (jad G 17) :: st) S) : J E G pc lv (.ref (jad G 6) :: st) S := J_get (k := 6) (j := 11) (c := 19) C (by rw [hG.2]; decide) (by rw [hG.1]; rfl) rfl ku_X3 (by decide) kf_X3_42 rfl hd kk
theorem g_X3_105 {E : jEnv} {G : jG} {cc : ByteArray} {nL fr lo pc : Nat} {lv : List (Nat × Value)} {st : List Value} {S : jMem} (hG : cG G) (C : jX E G cc nL RX3 fr lo) (hd : decode cc pc = .ok (.getfield 105, 3)) (kk : J E G (pc + 3) lv (.int (iI (S 6 12)) :: st) S) : J E G pc lv (.ref (jad G 6) :: st) S := J_get (k := 6) (j := 12) (c := 0) C (by rw [hG.2]; decide) (by rw [hG.1]; rfl) rfl ku_X3 (by decide) kf_X3_105 rfl hd kk
theorem p_X3_105 {E : jEnv} {G : jG} {cc : ByteArray} {nL fr lo pc : Nat} {lv : List (Nat × Value)} {st : List Value} {S : jMem} {x : Int} (hG : cG G) (C : jX E G cc nL RX3 fr lo) (hd : decode cc pc = .ok (.putfield 105, 3)) (kk : J E G (pc + 3) lv st (up2 S 6 12 x)) : J E G pc lv (.int (iI x) :: .ref (jad G 6) :: st) S := J_put (k := 6) (j := 12) (c := 0) C (by rw [hG.2]; decide) (by rw [hG.1]; rfl) rfl ku_X3 tyX3 tyX3_ok nmX3 (by decide) kf_X3_105 rfl rfl rfl rfl hd kk
theorem g_X3_101 {E : jEnv} {G : jG} {cc : ByteArray} {nL fr lo pc : Nat} {lv : List (Nat × Value)} {st : List Value} {S : jMem} (hG : cG G) (C : jX E G cc nL RX3 fr lo) (hd : decode cc pc = .ok (.getfield 101, 3)) (kk : J E G (pc + 3) lv (.int (iI (S 6 13)) :: st) S) : J E G pc lv (.ref (jad G 6) :: st) S := J_get (k := 6) (j := 13) (c := 0) C (by rw [hG.2]; decide) (by rw [hG.1]; rfl) rfl ku_X3 (by decide) kf_X3_101 rfl hd kk
theorem p_X3_101 {E : jEnv} {G : jG} {cc : ByteArray} {nL fr lo pc : Nat} {lv : List (Nat × Value)} {st : List Value} {S : jMem} {x : Int} (hG : cG G) (C : jX E G cc nL RX3 fr lo) (hd : decode cc pc = .ok (.putfield 101, 3)) (kk : J E G (pc + 3) lv st (up2 S 6 13 x)) : J E G pc lv (.int (iI x) :: .ref (jad G 6) :: st) S := J_put (k := 6) (j := 13) (c := 0) C (by rw [hG.2]; decide) (by rw [hG.1]; rfl) rfl ku_X3 tyX3 tyX3_ok nmX3 (by decide) kf_X3_101 rfl rfl rfl rfl hd kk
theorem g_X3_62 {E : jEnv} {G : jG} {cc : ByteArray} {nL fr lo pc : Nat} {lv : List (Nat × Value)} {st : List Value} {S : jMem} (hG : cG G) (C : jX E G cc nL RX3 fr lo) (hd : decode cc pc = .ok (.getfield 62, 3)) (kk : J E G (pc + 3) lv (.int (iI (S 6 14)) :: st) S) : J E G pc lv (.ref (jad G 6) :: st) S := J_get (k := 6) (j := 14) (c := 0) C (by rw [hG.2]; decide) (by rw [hG.1]; rfl) rfl ku_X3 (by decide) kf_X3_62 rfl hd kk
theorem p_X3_62 {E : jEnv} {G : jG} {cc : ByteArray} {nL fr lo pc : Nat} {lv : List (Nat × Value)} {st : List Value} {S : jMem} {x : Int} (hG : cG G) (C : jX E G cc nL RX3 fr lo) (hd : decode cc pc = .ok (.putfield 62, 3)) (kk : J E G (pc + 3) lv st (up2 S 6 14 x)) : J E G pc lv (.int (iI x) :: .ref (jad G 6) :: st) S := J_put (k := 6) (j := 14) (c := 0) C (by rw [hG.2]; decide) (by rw [hG.1]; rfl) rfl ku_X3 tyX3 tyX3_ok nmX3 (by decide) kf_X3_62 rfl rfl rfl rfl hd kk
theorem g_X5_80 {E : jEnv} {G : jG} {cc : ByteArray} {nL fr lo pc : Nat} {lv : List (Nat × Value)} {st : List Value} {S : jMem} (hG : cG G) (C : jX E G cc nL RX5 fr lo) (hd : decode cc pc = .ok (.getfield 80, 3)) (kk : J E G (pc + 3) lv (.int (iI (S 6 14)) :: st) S) : J E G pc lv (.ref (jad G 6) :: st) S := J_get (k := 6) (j := 14) (c := 0) C (by rw [hG.2]; decide) (by rw [hG.1]; rfl) rfl ku_X3 (by decide) kf_X5_80 rfl hd kk
theorem p_X5_80 {E : jEnv} {G : jG} {cc : ByteArray} {nL fr lo pc : Nat} {lv : List (Nat × Value)} {st : List Value} {S : jMem} {x : Int} (hG : cG G) (C : jX E G cc nL RX5 fr lo) (hd : decode cc pc = .ok (.putfield 80, 3)) (kk : J E G (pc + 3) lv st (up2 S 6 14 x)) : J E G pc lv (.int (iI x) :: .ref (jad G 6) :: st) S := J_put (k := 6) (j := 14) (c := 0) C (by rw [hG.2]; decide) (by rw [hG.1]; rfl) rfl ku_X3 tyX3 tyX3_ok nmX3 (by decide) kf_X5_80 rfl rfl rfl rfl hd kk
theorem g_X3_65 {E : jEnv} {G : jG} {cc : ByteArray} {nL fr lo pc : Nat} {lv : List (Nat × Value)} {st : List Value} {S : jMem} (hG : cG G) (C : jX E G cc nL RX3 fr lo) (hd : decode cc pc = .ok (.getfield 65, 3)) (kk : J E G (pc + 3) lv (.int (iI (S 6 15)) :: st) S) : J E G pc lv (.ref (jad G 6) :: st) S := J_get (k := 6) (j := 15) (c := 0) C (by rw [hG.2]; decide) (by rw [hG.1]; rfl) rfl ku_X3 (by decide) kf_X3_65 rfl hd kk
theorem p_X3_65 {E : jEnv} {G : jG} {cc : ByteArray} {nL fr lo pc : Nat} {lv : List (Nat × Value)} {st : List Value} {S : jMem} {x : Int} (hG : cG G) (C : jX E G cc nL RX3 fr lo) (hd : decode cc pc = .ok (.putfield 65, 3)) (kk : J E G (pc + 3) lv st (up2 S 6 15 x)) : J E G pc lv (.int (iI x) :: .ref (jad G 6) :: st) S := J_put (k := 6) (j := 15) (c := 0) C (by rw [hG.2]; decide) (by rw [hG.1]; rfl) rfl ku_X3 tyX3 tyX3_ok nmX3 (by decide) kf_X3_65 rfl rfl rfl rfl hd kk
theorem g_X5_93 {E : jEnv} {G : jG} {cc : ByteArray} {nL fr lo pc : Nat} {lv : List (Nat × Value)} {st : List Value} {S : jMem} (hG : cG G) (C : jX E G cc nL RX5 fr lo) (hd : decode cc pc = .ok (.getfield 93, 3)) (kk : J E G (pc + 3) lv (.int (iI (S 6 15)) :: st) S) : J E G pc lv (.ref (jad G 6) :: st) S := J_get (k := 6) (j := 15) (c := 0) C (by rw [hG.2]; decide) (by rw [hG.1]; rfl) rfl ku_X3 (by decide) kf_X5_93 rfl hd kk
theorem p_X5_93 {E : jEnv} {G : jG} {cc : ByteArray} {nL fr lo pc : Nat} {lv : List (Nat × Value)} {st : List Value} {S : jMem} {x : Int} (hG : cG G) (C : jX E G cc nL RX5 fr lo) (hd : decode cc pc = .ok (.putfield 93, 3)) (kk : J E G (pc + 3) lv st (up2 S 6 15 x)) : J E G pc lv (.int (iI x) :: .ref (jad G 6) :: st) S := J_put (k := 6) (j := 15) (c := 0) C (by rw [hG.2]; decide) (by rw [hG.1]; rfl) rfl ku_X3 tyX3 tyX3_ok nmX3 (by decide) kf_X5_93 rfl rfl rfl rfl hd kk
theorem g_X2_21 {E : jEnv} {G : jG} {cc : ByteArray} {nL fr lo pc : Nat} {lv : List (Nat × Value)} {st : List Value} {S : jMem} (hG : cG G) (C : jX E G cc nL RX2 fr lo) (hd : decode cc pc = .ok (.getfield 21, 3)) (kk : J E G (pc + 3) lv (.ref (jad G 1) :: st) S) : J E G pc lv (.ref (jad G 18) :: st) S := J_get (k := 18) (j := 0) (c := 3) C (by rw [hG.2]; decide) (by rw [hG.1]; rfl) rfl ku_X2 (by decide) kf_X2_21 rfl hd kk
theorem g_X2_9 {E : jEnv} {G : jG} {cc : ByteArray} {nL fr lo pc : Nat} {lv : List (Nat × Value)} {st : List Value} {S : jMem} (hG : cG G) (C : jX E G cc nL RX2 fr lo) (hd : decode cc pc = .ok (.getfield 9, 3)) (kk : J E G (pc + 3) lv (.ref (jad G 19) :: st) S) : J E G pc lv (.ref (jad G 18) :: st) S := J_get (k := 18) (j := 1) (c := 21) C (by rw [hG.2]; decide) (by rw [hG.1]; rfl) rfl ku_X2 (by decide) kf_X2_9 rfl hd kk
theorem g_X5_122 {E : jEnv} {G : jG} {cc : ByteArray} {nL fr lo pc : Nat} {lv : List (Nat × Value)} {st : List Value} {S : jMem} (hG : cG G) (C : jX E G cc nL RX5 fr lo) (hd : decode cc pc = .ok (.getfield 122, 3)) (kk : J E G (pc + 3) lv (.ref (jad G 19) :: st) S) : J E G pc lv (.ref (jad G 18) :: st) S := J_get (k := 18) (j := 1) (c := 21) C (by rw [hG.2]; decide) (by rw [hG.1]; rfl) rfl ku_X2 (by decide) kf_X5_122 rfl hd kk
theorem g_X2_15 {E : jEnv} {G : jG} {cc : ByteArray} {nL fr lo pc : Nat} {lv : List (Nat × Value)} {st : List Value} {S : jMem} (hG : cG G) (C : jX E G cc nL RX2 fr lo) (hd : decode cc pc = .ok (.getfield 15, 3)) (kk : J E G (pc + 3) lv (.ref (jad G 20) :: st) S) : J E G pc lv (.ref (jad G 18) :: st) S := J_get (k := 18) (j := 2) (c := 22) C (by rw [hG.2]; decide) (by rw [hG.1]; rfl) rfl ku_X2 (by decide) kf_X2_15 rfl hd kk
theorem g_X0_52 {E : jEnv} {G : jG} {cc : ByteArray} {nL fr lo pc : Nat} {lv : List (Nat × Value)} {st : List Value} {S : jMem} (hG : cG G) (C : jX E G cc nL RX0 fr lo) (hd : decode cc pc = .ok (.getfield 52, 3)) (kk : J E G (pc + 3) lv (.ref (jad G 20) :: st) S) : J E G pc lv (.ref (jad G 18) :: st) S := J_get (k := 18) (j := 2) (c := 22) C (by rw [hG.2]; decide) (by rw [hG.1]; rfl) rfl ku_X2 (by decide) kf_X0_52 rfl hd kk
theorem g_X5_121 {E : jEnv} {G : jG} {cc : ByteArray} {nL fr lo pc : Nat} {lv : List (Nat × Value)} {st : List Value} {S : jMem} (hG : cG G) (C : jX E G cc nL RX5 fr lo) (hd : decode cc pc = .ok (.getfield 121, 3)) (kk : J E G (pc + 3) lv (.ref (jad G 20) :: st) S) : J E G pc lv (.ref (jad G 18) :: st) S := J_get (k := 18) (j := 2) (c := 22) C (by rw [hG.2]; decide) (by rw [hG.1]; rfl) rfl ku_X2 (by decide) kf_X5_121 rfl hd kk
theorem g_X2_18 {E : jEnv} {G : jG} {cc : ByteArray} {nL fr lo pc : Nat} {lv : List (Nat × Value)} {st : List Value} {S : jMem} (hG : cG G) (C : jX E G cc nL RX2 fr lo) (hd : decode cc pc = .ok (.getfield 18, 3)) (kk : J E G (pc + 3) lv (.ref (jad G 21) :: st) S) : J E G pc lv (.ref (jad G 18) :: st) S := J_get (k := 18) (j := 3) (c := 23) C (by rw [hG.2]; decide) (by rw [hG.1]; rfl) rfl ku_X2 (by decide) kf_X2_18 rfl hd kk
theorem g_X0_55 {E : jEnv} {G : jG} {cc : ByteArray} {nL fr lo pc : Nat} {lv : List (Nat × Value)} {st : List Value} {S : jMem} (hG : cG G) (C : jX E G cc nL RX0 fr lo) (hd : decode cc pc = .ok (.getfield 55, 3)) (kk : J E G (pc + 3) lv (.ref (jad G 21) :: st) S) : J E G pc lv (.ref (jad G 18) :: st) S := J_get (k := 18) (j := 3) (c := 23) C (by rw [hG.2]; decide) (by rw [hG.1]; rfl) rfl ku_X2 (by decide) kf_X0_55 rfl hd kk
theorem g_X2_25 {E : jEnv} {G : jG} {cc : ByteArray} {nL fr lo pc : Nat} {lv : List (Nat × Value)} {st : List Value} {S : jMem} (hG : cG G) (C : jX E G cc nL RX2 fr lo) (hd : decode cc pc = .ok (.getfield 25, 3)) (kk : J E G (pc + 3) lv (.int (iI (S 18 4)) :: st) S) : J E G pc lv (.ref (jad G 18) :: st) S := J_get (k := 18) (j := 4) (c := 0) C (by rw [hG.2]; decide) (by rw [hG.1]; rfl) rfl ku_X2 (by decide) kf_X2_25 rfl hd kk
theorem p_X2_25 {E : jEnv} {G : jG} {cc : ByteArray} {nL fr lo pc : Nat} {lv : List (Nat × Value)} {st : List Value} {S : jMem} {x : Int} (hG : cG G) (C : jX E G cc nL RX2 fr lo) (hd : decode cc pc = .ok (.putfield 25, 3)) (kk : J E G (pc + 3) lv st (up2 S 18 4 x)) : J E G pc lv (.int (iI x) :: .ref (jad G 18) :: st) S := J_put (k := 18) (j := 4) (c := 0) C (by rw [hG.2]; decide) (by rw [hG.1]; rfl) rfl ku_X2 tyX2 tyX2_ok nmX2 (by decide) kf_X2_25 rfl rfl rfl rfl hd kk
theorem g_X0_22 {E : jEnv} {G : jG} {cc : ByteArray} {nL fr lo pc : Nat} {lv : List (Nat × Value)} {st : List Value} {S : jMem} (hG : cG G) (C : jX E G cc nL RX0 fr lo) (hd : decode cc pc = .ok (.getfield 22, 3)) (kk : J E G (pc + 3) lv (.int (iI (S 18 4)) :: st) S) : J E G pc lv (.ref (jad G 18) :: st) S := J_get (k := 18) (j := 4) (c := 0) C (by rw [hG.2]; decide) (by rw [hG.1]; rfl) rfl ku_X2 (by decide) kf_X0_22 rfl hd kk
theorem p_X0_22 {E : jEnv} {G : jG} {cc : ByteArray} {nL fr lo pc : Nat} {lv : List (Nat × Value)} {st : List Value} {S : jMem} {x : Int} (hG : cG G) (C : jX E G cc nL RX0 fr lo) (hd : decode cc pc = .ok (.putfield 22, 3)) (kk : J E G (pc + 3) lv st (up2 S 18 4 x)) : J E G pc lv (.int (iI x) :: .ref (jad G 18) :: st) S := J_put (k := 18) (j := 4) (c := 0) C (by rw [hG.2]; decide) (by rw [hG.1]; rfl) rfl ku_X2 tyX2 tyX2_ok nmX2 (by decide) kf_X0_22 rfl rfl rfl rfl hd kk
theorem g_X0_18 {E : jEnv} {G : jG} {cc : ByteArray} {nL fr lo pc : Nat} {lv : List (Nat × Value)} {st : List Value} {S : jMem} (hG : cG G) (C : jX E G cc nL RX0 fr lo) (hd : decode cc pc = .ok (.getfield 18, 3)) (kk : J E G (pc + 3) lv (.ref (jad G 18) :: st) S) : J E G pc lv (.ref (jad G 22) :: st) S := J_get (k := 22) (j := 0) (c := 20) C (by rw [hG.2]; decide) (by rw [hG.1]; rfl) rfl ku_X0 (by decide) kf_X0_18 rfl hd kk
theorem g_X0_9 {E : jEnv} {G : jG} {cc : ByteArray} {nL fr lo pc : Nat} {lv : List (Nat × Value)} {st : List Value} {S : jMem} (hG : cG G) (C : jX E G cc nL RX0 fr lo) (hd : decode cc pc = .ok (.getfield 9, 3)) (kk : J E G (pc + 3) lv (.ref (jad G 23) :: st) S) : J E G pc lv (.ref (jad G 22) :: st) S := J_get (k := 22) (j := 1) (c := 25) C (by rw [hG.2]; decide) (by rw [hG.1]; rfl) rfl ku_X0 (by decide) kf_X0_9 rfl hd kk
theorem g_X5_149 {E : jEnv} {G : jG} {cc : ByteArray} {nL fr lo pc : Nat} {lv : List (Nat × Value)} {st : List Value} {S : jMem} (hG : cG G) (C : jX E G cc nL RX5 fr lo) (hd : decode cc pc = .ok (.getfield 149, 3)) (kk : J E G (pc + 3) lv (.ref (jad G 23) :: st) S) : J E G pc lv (.ref (jad G 22) :: st) S := J_get (k := 22) (j := 1) (c := 25) C (by rw [hG.2]; decide) (by rw [hG.1]; rfl) rfl ku_X0 (by decide) kf_X5_149 rfl hd kk
theorem g_X0_15 {E : jEnv} {G : jG} {cc : ByteArray} {nL fr lo pc : Nat} {lv : List (Nat × Value)} {st : List Value} {S : jMem} (hG : cG G) (C : jX E G cc nL RX0 fr lo) (hd : decode cc pc = .ok (.getfield 15, 3)) (kk : J E G (pc + 3) lv (.ref (jad G 24) :: st) S) : J E G pc lv (.ref (jad G 22) :: st) S := J_get (k := 22) (j := 2) (c := 26) C (by rw [hG.2]; decide) (by rw [hG.1]; rfl) rfl ku_X0 (by decide) kf_X0_15 rfl hd kk
theorem g_X1_30 {E : jEnv} {G : jG} {cc : ByteArray} {nL fr lo pc : Nat} {lv : List (Nat × Value)} {st : List Value} {S : jMem} (hG : cG G) (C : jX E G cc nL RX1 fr lo) (hd : decode cc pc = .ok (.getfield 30, 3)) (kk : J E G (pc + 3) lv (.ref (jad G 1) :: st) S) : J E G pc lv (.ref (jad G 25) :: st) S := J_get (k := 25) (j := 0) (c := 3) C (by rw [hG.2]; decide) (by rw [hG.1]; rfl) rfl ku_X1 (by decide) kf_X1_30 rfl hd kk
theorem g_X1_9 {E : jEnv} {G : jG} {cc : ByteArray} {nL fr lo pc : Nat} {lv : List (Nat × Value)} {st : List Value} {S : jMem} (hG : cG G) (C : jX E G cc nL RX1 fr lo) (hd : decode cc pc = .ok (.getfield 9, 3)) (kk : J E G (pc + 3) lv (.ref (jad G 26) :: st) S) : J E G pc lv (.ref (jad G 25) :: st) S := J_get (k := 25) (j := 1) (c := 28) C (by rw [hG.2]; decide) (by rw [hG.1]; rfl) rfl ku_X1 (by decide) kf_X1_9 rfl hd kk
theorem g_X5_181 {E : jEnv} {G : jG} {cc : ByteArray} {nL fr lo pc : Nat} {lv : List (Nat × Value)} {st : List Value} {S : jMem} (hG : cG G) (C : jX E G cc nL RX5 fr lo) (hd : decode cc pc = .ok (.getfield 181, 3)) (kk : J E G (pc + 3) lv (.ref (jad G 26) :: st) S) : J E G pc lv (.ref (jad G 25) :: st) S := J_get (k := 25) (j := 1) (c := 28) C (by rw [hG.2]; decide) (by rw [hG.1]; rfl) rfl ku_X1 (by decide) kf_X5_181 rfl hd kk
theorem g_X1_15 {E : jEnv} {G : jG} {cc : ByteArray} {nL fr lo pc : Nat} {lv : List (Nat × Value)} {st : List Value} {S : jMem} (hG : cG G) (C : jX E G cc nL RX1 fr lo) (hd : decode cc pc = .ok (.getfield 15, 3)) (kk : J E G (pc + 3) lv (.ref (jad G 27) :: st) S) : J E G pc lv (.ref (jad G 25) :: st) S := J_get (k := 25) (j := 2) (c := 29) C (by rw [hG.2]; decide) (by rw [hG.1]; rfl) rfl ku_X1 (by decide) kf_X1_15 rfl hd kk
theorem g_X1_18 {E : jEnv} {G : jG} {cc : ByteArray} {nL fr lo pc : Nat} {lv : List (Nat × Value)} {st : List Value} {S : jMem} (hG : cG G) (C : jX E G cc nL RX1 fr lo) (hd : decode cc pc = .ok (.getfield 18, 3)) (kk : J E G (pc + 3) lv (.ref (jad G 28) :: st) S) : J E G pc lv (.ref (jad G 25) :: st) S := J_get (k := 25) (j := 3) (c := 30) C (by rw [hG.2]; decide) (by rw [hG.1]; rfl) rfl ku_X1 (by decide) kf_X1_18 rfl hd kk
theorem g_X1_21 {E : jEnv} {G : jG} {cc : ByteArray} {nL fr lo pc : Nat} {lv : List (Nat × Value)} {st : List Value} {S : jMem} (hG : cG G) (C : jX E G cc nL RX1 fr lo) (hd : decode cc pc = .ok (.getfield 21, 3)) (kk : J E G (pc + 3) lv (.ref (jad G 29) :: st) S) : J E G pc lv (.ref (jad G 25) :: st) S := J_get (k := 25) (j := 4) (c := 31) C (by rw [hG.2]; decide) (by rw [hG.1]; rfl) rfl ku_X1 (by decide) kf_X1_21 rfl hd kk
theorem g_X1_24 {E : jEnv} {G : jG} {cc : ByteArray} {nL fr lo pc : Nat} {lv : List (Nat × Value)} {st : List Value} {S : jMem} (hG : cG G) (C : jX E G cc nL RX1 fr lo) (hd : decode cc pc = .ok (.getfield 24, 3)) (kk : J E G (pc + 3) lv (.ref (jad G 30) :: st) S) : J E G pc lv (.ref (jad G 25) :: st) S := J_get (k := 25) (j := 5) (c := 32) C (by rw [hG.2]; decide) (by rw [hG.1]; rfl) rfl ku_X1 (by decide) kf_X1_24 rfl hd kk
theorem g_X1_73 {E : jEnv} {G : jG} {cc : ByteArray} {nL fr lo pc : Nat} {lv : List (Nat × Value)} {st : List Value} {S : jMem} (hG : cG G) (C : jX E G cc nL RX1 fr lo) (hd : decode cc pc = .ok (.getfield 73, 3)) (kk : J E G (pc + 3) lv (.int (iI (S 25 6)) :: st) S) : J E G pc lv (.ref (jad G 25) :: st) S := J_get (k := 25) (j := 6) (c := 0) C (by rw [hG.2]; decide) (by rw [hG.1]; rfl) rfl ku_X1 (by decide) kf_X1_73 rfl hd kk
theorem p_X1_73 {E : jEnv} {G : jG} {cc : ByteArray} {nL fr lo pc : Nat} {lv : List (Nat × Value)} {st : List Value} {S : jMem} {x : Int} (hG : cG G) (C : jX E G cc nL RX1 fr lo) (hd : decode cc pc = .ok (.putfield 73, 3)) (kk : J E G (pc + 3) lv st (up2 S 25 6 x)) : J E G pc lv (.int (iI x) :: .ref (jad G 25) :: st) S := J_put (k := 25) (j := 6) (c := 0) C (by rw [hG.2]; decide) (by rw [hG.1]; rfl) rfl ku_X1 tyX1 tyX1_ok nmX1 (by decide) kf_X1_73 rfl rfl rfl rfl hd kk
theorem g_X1_27 {E : jEnv} {G : jG} {cc : ByteArray} {nL fr lo pc : Nat} {lv : List (Nat × Value)} {st : List Value} {S : jMem} (hG : cG G) (C : jX E G cc nL RX1 fr lo) (hd : decode cc pc = .ok (.getfield 27, 3)) (kk : J E G (pc + 3) lv (.ref (jad G 31) :: st) S) : J E G pc lv (.ref (jad G 25) :: st) S := J_get (k := 25) (j := 7) (c := 33) C (by rw [hG.2]; decide) (by rw [hG.1]; rfl) rfl ku_X1 (by decide) kf_X1_27 rfl hd kk
theorem g_X1_34 {E : jEnv} {G : jG} {cc : ByteArray} {nL fr lo pc : Nat} {lv : List (Nat × Value)} {st : List Value} {S : jMem} (hG : cG G) (C : jX E G cc nL RX1 fr lo) (hd : decode cc pc = .ok (.getfield 34, 3)) (kk : J E G (pc + 3) lv (.int (iI (S 25 8)) :: st) S) : J E G pc lv (.ref (jad G 25) :: st) S := J_get (k := 25) (j := 8) (c := 0) C (by rw [hG.2]; decide) (by rw [hG.1]; rfl) rfl ku_X1 (by decide) kf_X1_34 rfl hd kk
theorem p_X1_34 {E : jEnv} {G : jG} {cc : ByteArray} {nL fr lo pc : Nat} {lv : List (Nat × Value)} {st : List Value} {S : jMem} {x : Int} (hG : cG G) (C : jX E G cc nL RX1 fr lo) (hx : x = 0 ∨ x = 1) (hd : decode cc pc = .ok (.putfield 34, 3)) (kk : J E G (pc + 3) lv st (up2 S 25 8 x)) : J E G pc lv (.int (iI x) :: .ref (jad G 25) :: st) S := J_put (k := 25) (j := 8) (c := 0) C (by rw [hG.2]; decide) (by rw [hG.1]; rfl) rfl ku_X1 tyX1 tyX1_ok nmX1 (by decide) kf_X1_34 rfl rfl (by rcases hx with rfl | rfl <;> rfl) (by rcases hx with rfl | rfl <;> rfl) hd kk
theorem g_X1_38 {E : jEnv} {G : jG} {cc : ByteArray} {nL fr lo pc : Nat} {lv : List (Nat × Value)} {st : List Value} {S : jMem} (hG : cG G) (C : jX E G cc nL RX1 fr lo) (hd : decode cc pc = .ok (.getfield 38, 3)) (kk : J E G (pc + 3) lv (.int (iI (S 25 9)) :: st) S) : J E G pc lv (.ref (jad G 25) :: st) S := J_get (k := 25) (j := 9) (c := 0) C (by rw [hG.2]; decide) (by rw [hG.1]; rfl) rfl ku_X1 (by decide) kf_X1_38 rfl hd kk
theorem p_X1_38 {E : jEnv} {G : jG} {cc : ByteArray} {nL fr lo pc : Nat} {lv : List (Nat × Value)} {st : List Value} {S : jMem} {x : Int} (hG : cG G) (C : jX E G cc nL RX1 fr lo) (hx : x = 0 ∨ x = 1) (hd : decode cc pc = .ok (.putfield 38, 3)) (kk : J E G (pc + 3) lv st (up2 S 25 9 x)) : J E G pc lv (.int (iI x) :: .ref (jad G 25) :: st) S := J_put (k := 25) (j := 9) (c := 0) C (by rw [hG.2]; decide) (by rw [hG.1]; rfl) rfl ku_X1 tyX1 tyX1_ok nmX1 (by decide) kf_X1_38 rfl rfl (by rcases hx with rfl | rfl <;> rfl) (by rcases hx with rfl | rfl <;> rfl) hd kk
theorem g_X5_12 {E : jEnv} {G : jG} {cc : ByteArray} {nL fr lo pc : Nat} {lv : List (Nat × Value)} {st : List Value} {S : jMem} (hG : cG G) (C : jX E G cc nL RX5 fr lo) (hd : decode cc pc = .ok (.getfield 12, 3)) (kk : J E G (pc + 3) lv (.ref (jad G 1) :: st) S) : J E G pc lv (.ref (jad G 0) :: st) S := J_get (k := 0) (j := 0) (c := 3) C (by rw [hG.2]; decide) (by rw [hG.1]; rfl) rfl ku_X5 (by decide) kf_X5_12 rfl hd kk
theorem g_X5_21 {E : jEnv} {G : jG} {cc : ByteArray} {nL fr lo pc : Nat} {lv : List (Nat × Value)} {st : List Value} {S : jMem} (hG : cG G) (C : jX E G cc nL RX5 fr lo) (hd : decode cc pc = .ok (.getfield 21, 3)) (kk : J E G (pc + 3) lv (.ref (jad G 6) :: st) S) : J E G pc lv (.ref (jad G 0) :: st) S := J_get (k := 0) (j := 1) (c := 8) C (by rw [hG.2]; decide) (by rw [hG.1]; rfl) rfl ku_X5 (by decide) kf_X5_21 rfl hd kk
theorem g_X5_28 {E : jEnv} {G : jG} {cc : ByteArray} {nL fr lo pc : Nat} {lv : List (Nat × Value)} {st : List Value} {S : jMem} (hG : cG G) (C : jX E G cc nL RX5 fr lo) (hd : decode cc pc = .ok (.getfield 28, 3)) (kk : J E G (pc + 3) lv (.ref (jad G 18) :: st) S) : J E G pc lv (.ref (jad G 0) :: st) S := J_get (k := 0) (j := 2) (c := 20) C (by rw [hG.2]; decide) (by rw [hG.1]; rfl) rfl ku_X5 (by decide) kf_X5_28 rfl hd kk
theorem g_X5_37 {E : jEnv} {G : jG} {cc : ByteArray} {nL fr lo pc : Nat} {lv : List (Nat × Value)} {st : List Value} {S : jMem} (hG : cG G) (C : jX E G cc nL RX5 fr lo) (hd : decode cc pc = .ok (.getfield 37, 3)) (kk : J E G (pc + 3) lv (.ref (jad G 22) :: st) S) : J E G pc lv (.ref (jad G 0) :: st) S := J_get (k := 0) (j := 3) (c := 24) C (by rw [hG.2]; decide) (by rw [hG.1]; rfl) rfl ku_X5 (by decide) kf_X5_37 rfl hd kk
theorem g_X5_44 {E : jEnv} {G : jG} {cc : ByteArray} {nL fr lo pc : Nat} {lv : List (Nat × Value)} {st : List Value} {S : jMem} (hG : cG G) (C : jX E G cc nL RX5 fr lo) (hd : decode cc pc = .ok (.getfield 44, 3)) (kk : J E G (pc + 3) lv (.ref (jad G 25) :: st) S) : J E G pc lv (.ref (jad G 0) :: st) S := J_get (k := 0) (j := 4) (c := 27) C (by rw [hG.2]; decide) (by rw [hG.1]; rfl) rfl ku_X5 (by decide) kf_X5_44 rfl hd kk
theorem g_X6_7 {E : jEnv} {G : jG} {cc : ByteArray} {nL fr lo pc : Nat} {lv : List (Nat × Value)} {st : List Value} {S : jMem} (hG : mG G) (C : jX E G cc nL RX6 fr lo) (hd : decode cc pc = .ok (.getfield 7, 3)) (kk : J E G (pc + 3) lv (.ref (jad G 1) :: st) S) : J E G pc lv (.ref (jad G 0) :: st) S := J_get (k := 0) (j := 0) (c := 3) C (by rw [hG.2]; decide) (by rw [hG.1]; rfl) rfl ku_X6 (by decide) kf_X6_7 rfl hd kk
theorem g_X6_81 {E : jEnv} {G : jG} {cc : ByteArray} {nL fr lo pc : Nat} {lv : List (Nat × Value)} {st : List Value} {S : jMem} (hG : mG G) (C : jX E G cc nL RX6 fr lo) (hd : decode cc pc = .ok (.getfield 81, 3)) (kk : J E G (pc + 3) lv (.int (iI (S 0 1)) :: st) S) : J E G pc lv (.ref (jad G 0) :: st) S := J_get (k := 0) (j := 1) (c := 0) C (by rw [hG.2]; decide) (by rw [hG.1]; rfl) rfl ku_X6 (by decide) kf_X6_81 rfl hd kk
theorem p_X6_81 {E : jEnv} {G : jG} {cc : ByteArray} {nL fr lo pc : Nat} {lv : List (Nat × Value)} {st : List Value} {S : jMem} {x : Int} (hG : mG G) (C : jX E G cc nL RX6 fr lo) (hd : decode cc pc = .ok (.putfield 81, 3)) (kk : J E G (pc + 3) lv st (up2 S 0 1 x)) : J E G pc lv (.int (iI x) :: .ref (jad G 0) :: st) S := J_put (k := 0) (j := 1) (c := 0) C (by rw [hG.2]; decide) (by rw [hG.1]; rfl) rfl ku_X6 tyX6 tyX6_ok nmX6 (by decide) kf_X6_81 rfl rfl rfl rfl hd kk
theorem g_X6_13 {E : jEnv} {G : jG} {cc : ByteArray} {nL fr lo pc : Nat} {lv : List (Nat × Value)} {st : List Value} {S : jMem} (hG : mG G) (C : jX E G cc nL RX6 fr lo) (hd : decode cc pc = .ok (.getfield 13, 3)) (kk : J E G (pc + 3) lv (.ref (jad G 2) :: st) S) : J E G pc lv (.ref (jad G 0) :: st) S := J_get (k := 0) (j := 2) (c := 4) C (by rw [hG.2]; decide) (by rw [hG.1]; rfl) rfl ku_X6 (by decide) kf_X6_13 rfl hd kk
theorem g_X6_16 {E : jEnv} {G : jG} {cc : ByteArray} {nL fr lo pc : Nat} {lv : List (Nat × Value)} {st : List Value} {S : jMem} (hG : mG G) (C : jX E G cc nL RX6 fr lo) (hd : decode cc pc = .ok (.getfield 16, 3)) (kk : J E G (pc + 3) lv (.ref (jad G 3) :: st) S) : J E G pc lv (.ref (jad G 0) :: st) S := J_get (k := 0) (j := 3) (c := 5) C (by rw [hG.2]; decide) (by rw [hG.1]; rfl) rfl ku_X6 (by decide) kf_X6_16 rfl hd kk
theorem g_X6_19 {E : jEnv} {G : jG} {cc : ByteArray} {nL fr lo pc : Nat} {lv : List (Nat × Value)} {st : List Value} {S : jMem} (hG : mG G) (C : jX E G cc nL RX6 fr lo) (hd : decode cc pc = .ok (.getfield 19, 3)) (kk : J E G (pc + 3) lv (.ref (jad G 4) :: st) S) : J E G pc lv (.ref (jad G 0) :: st) S := J_get (k := 0) (j := 4) (c := 6) C (by rw [hG.2]; decide) (by rw [hG.1]; rfl) rfl ku_X6 (by decide) kf_X6_19 rfl hd kk
theorem g_X6_22 {E : jEnv} {G : jG} {cc : ByteArray} {nL fr lo pc : Nat} {lv : List (Nat × Value)} {st : List Value} {S : jMem} (hG : mG G) (C : jX E G cc nL RX6 fr lo) (hd : decode cc pc = .ok (.getfield 22, 3)) (kk : J E G (pc + 3) lv (.ref (jad G 5) :: st) S) : J E G pc lv (.ref (jad G 0) :: st) S := J_get (k := 0) (j := 5) (c := 7) C (by rw [hG.2]; decide) (by rw [hG.1]; rfl) rfl ku_X6 (by decide) kf_X6_22 rfl hd kk
theorem g_X6_25 {E : jEnv} {G : jG} {cc : ByteArray} {nL fr lo pc : Nat} {lv : List (Nat × Value)} {st : List Value} {S : jMem} (hG : mG G) (C : jX E G cc nL RX6 fr lo) (hd : decode cc pc = .ok (.getfield 25, 3)) (kk : J E G (pc + 3) lv (.ref (jad G 6) :: st) S) : J E G pc lv (.ref (jad G 0) :: st) S := J_get (k := 0) (j := 6) (c := 8) C (by rw [hG.2]; decide) (by rw [hG.1]; rfl) rfl ku_X6 (by decide) kf_X6_25 rfl hd kk
theorem g_X6_85 {E : jEnv} {G : jG} {cc : ByteArray} {nL fr lo pc : Nat} {lv : List (Nat × Value)} {st : List Value} {S : jMem} (hG : mG G) (C : jX E G cc nL RX6 fr lo) (hd : decode cc pc = .ok (.getfield 85, 3)) (kk : J E G (pc + 3) lv (.int (iI (S 0 7)) :: st) S) : J E G pc lv (.ref (jad G 0) :: st) S := J_get (k := 0) (j := 7) (c := 0) C (by rw [hG.2]; decide) (by rw [hG.1]; rfl) rfl ku_X6 (by decide) kf_X6_85 rfl hd kk
theorem p_X6_85 {E : jEnv} {G : jG} {cc : ByteArray} {nL fr lo pc : Nat} {lv : List (Nat × Value)} {st : List Value} {S : jMem} {x : Int} (hG : mG G) (C : jX E G cc nL RX6 fr lo) (hd : decode cc pc = .ok (.putfield 85, 3)) (kk : J E G (pc + 3) lv st (up2 S 0 7 x)) : J E G pc lv (.int (iI x) :: .ref (jad G 0) :: st) S := J_put (k := 0) (j := 7) (c := 0) C (by rw [hG.2]; decide) (by rw [hG.1]; rfl) rfl ku_X6 tyX6 tyX6_ok nmX6 (by decide) kf_X6_85 rfl rfl rfl rfl hd kk
theorem g_X6_88 {E : jEnv} {G : jG} {cc : ByteArray} {nL fr lo pc : Nat} {lv : List (Nat × Value)} {st : List Value} {S : jMem} (hG : mG G) (C : jX E G cc nL RX6 fr lo) (hd : decode cc pc = .ok (.getfield 88, 3)) (kk : J E G (pc + 3) lv (.int (iI (S 0 8)) :: st) S) : J E G pc lv (.ref (jad G 0) :: st) S := J_get (k := 0) (j := 8) (c := 0) C (by rw [hG.2]; decide) (by rw [hG.1]; rfl) rfl ku_X6 (by decide) kf_X6_88 rfl hd kk
theorem p_X6_88 {E : jEnv} {G : jG} {cc : ByteArray} {nL fr lo pc : Nat} {lv : List (Nat × Value)} {st : List Value} {S : jMem} {x : Int} (hG : mG G) (C : jX E G cc nL RX6 fr lo) (hd : decode cc pc = .ok (.putfield 88, 3)) (kk : J E G (pc + 3) lv st (up2 S 0 8 x)) : J E G pc lv (.int (iI x) :: .ref (jad G 0) :: st) S := J_put (k := 0) (j := 8) (c := 0) C (by rw [hG.2]; decide) (by rw [hG.1]; rfl) rfl ku_X6 tyX6 tyX6_ok nmX6 (by decide) kf_X6_88 rfl rfl rfl rfl hd kk
theorem g_X6_91 {E : jEnv} {G : jG} {cc : ByteArray} {nL fr lo pc : Nat} {lv : List (Nat × Value)} {st : List Value} {S : jMem} (hG : mG G) (C : jX E G cc nL RX6 fr lo) (hd : decode cc pc = .ok (.getfield 91, 3)) (kk : J E G (pc + 3) lv (.long (iL (S 0 9)) :: st) S) : J E G pc lv (.ref (jad G 0) :: st) S := J_get (k := 0) (j := 9) (c := 1) C (by rw [hG.2]; decide) (by rw [hG.1]; rfl) rfl ku_X6 (by decide) kf_X6_91 rfl hd kk
theorem p_X6_91 {E : jEnv} {G : jG} {cc : ByteArray} {nL fr lo pc : Nat} {lv : List (Nat × Value)} {st : List Value} {S : jMem} {x : Int} (hG : mG G) (C : jX E G cc nL RX6 fr lo) (hd : decode cc pc = .ok (.putfield 91, 3)) (kk : J E G (pc + 3) lv st (up2 S 0 9 x)) : J E G pc lv (.long (iL x) :: .ref (jad G 0) :: st) S := J_put (k := 0) (j := 9) (c := 1) C (by rw [hG.2]; decide) (by rw [hG.1]; rfl) rfl ku_X6 tyX6 tyX6_ok nmX6 (by decide) kf_X6_91 rfl rfl rfl rfl hd kk
theorem g_X6_28 {E : jEnv} {G : jG} {cc : ByteArray} {nL fr lo pc : Nat} {lv : List (Nat × Value)} {st : List Value} {S : jMem} (hG : mG G) (C : jX E G cc nL RX6 fr lo) (hd : decode cc pc = .ok (.getfield 28, 3)) (kk : J E G (pc + 3) lv (.ref (jad G 7) :: st) S) : J E G pc lv (.ref (jad G 0) :: st) S := J_get (k := 0) (j := 10) (c := 9) C (by rw [hG.2]; decide) (by rw [hG.1]; rfl) rfl ku_X6 (by decide) kf_X6_28 rfl hd kk
theorem g_X6_31 {E : jEnv} {G : jG} {cc : ByteArray} {nL fr lo pc : Nat} {lv : List (Nat × Value)} {st : List Value} {S : jMem} (hG : mG G) (C : jX E G cc nL RX6 fr lo) (hd : decode cc pc = .ok (.getfield 31, 3)) (kk : J E G (pc + 3) lv (.ref (jad G 8) :: st) S) : J E G pc lv (.ref (jad G 0) :: st) S := J_get (k := 0) (j := 11) (c := 10) C (by rw [hG.2]; decide) (by rw [hG.1]; rfl) rfl ku_X6 (by decide) kf_X6_31 rfl hd kk
theorem g_X6_34 {E : jEnv} {G : jG} {cc : ByteArray} {nL fr lo pc : Nat} {lv : List (Nat × Value)} {st : List Value} {S : jMem} (hG : mG G) (C : jX E G cc nL RX6 fr lo) (hd : decode cc pc = .ok (.getfield 34, 3)) (kk : J E G (pc + 3) lv (.ref (jad G 9) :: st) S) : J E G pc lv (.ref (jad G 0) :: st) S := J_get (k := 0) (j := 12) (c := 11) C (by rw [hG.2]; decide) (by rw [hG.1]; rfl) rfl ku_X6 (by decide) kf_X6_34 rfl hd kk
theorem g_X6_37 {E : jEnv} {G : jG} {cc : ByteArray} {nL fr lo pc : Nat} {lv : List (Nat × Value)} {st : List Value} {S : jMem} (hG : mG G) (C : jX E G cc nL RX6 fr lo) (hd : decode cc pc = .ok (.getfield 37, 3)) (kk : J E G (pc + 3) lv (.ref (jad G 10) :: st) S) : J E G pc lv (.ref (jad G 0) :: st) S := J_get (k := 0) (j := 13) (c := 12) C (by rw [hG.2]; decide) (by rw [hG.1]; rfl) rfl ku_X6 (by decide) kf_X6_37 rfl hd kk
theorem g_X6_40 {E : jEnv} {G : jG} {cc : ByteArray} {nL fr lo pc : Nat} {lv : List (Nat × Value)} {st : List Value} {S : jMem} (hG : mG G) (C : jX E G cc nL RX6 fr lo) (hd : decode cc pc = .ok (.getfield 40, 3)) (kk : J E G (pc + 3) lv (.ref (jad G 11) :: st) S) : J E G pc lv (.ref (jad G 0) :: st) S := J_get (k := 0) (j := 14) (c := 13) C (by rw [hG.2]; decide) (by rw [hG.1]; rfl) rfl ku_X6 (by decide) kf_X6_40 rfl hd kk
theorem g_X6_44 {E : jEnv} {G : jG} {cc : ByteArray} {nL fr lo pc : Nat} {lv : List (Nat × Value)} {st : List Value} {S : jMem} (hG : mG G) (C : jX E G cc nL RX6 fr lo) (hd : decode cc pc = .ok (.getfield 44, 3)) (kk : J E G (pc + 3) lv (.ref (jad G 12) :: st) S) : J E G pc lv (.ref (jad G 0) :: st) S := J_get (k := 0) (j := 15) (c := 14) C (by rw [hG.2]; decide) (by rw [hG.1]; rfl) rfl ku_X6 (by decide) kf_X6_44 rfl hd kk
theorem g_X6_47 {E : jEnv} {G : jG} {cc : ByteArray} {nL fr lo pc : Nat} {lv : List (Nat × Value)} {st : List Value} {S : jMem} (hG : mG G) (C : jX E G cc nL RX6 fr lo) (hd : decode cc pc = .ok (.getfield 47, 3)) (kk : J E G (pc + 3) lv (.ref (jad G 13) :: st) S) : J E G pc lv (.ref (jad G 0) :: st) S := J_get (k := 0) (j := 16) (c := 15) C (by rw [hG.2]; decide) (by rw [hG.1]; rfl) rfl ku_X6 (by decide) kf_X6_47 rfl hd kk
theorem g_X6_50 {E : jEnv} {G : jG} {cc : ByteArray} {nL fr lo pc : Nat} {lv : List (Nat × Value)} {st : List Value} {S : jMem} (hG : mG G) (C : jX E G cc nL RX6 fr lo) (hd : decode cc pc = .ok (.getfield 50, 3)) (kk : J E G (pc + 3) lv (.ref (jad G 14) :: st) S) : J E G pc lv (.ref (jad G 0) :: st) S := J_get (k := 0) (j := 17) (c := 16) C (by rw [hG.2]; decide) (by rw [hG.1]; rfl) rfl ku_X6 (by decide) kf_X6_50 rfl hd kk
theorem g_X6_53 {E : jEnv} {G : jG} {cc : ByteArray} {nL fr lo pc : Nat} {lv : List (Nat × Value)} {st : List Value} {S : jMem} (hG : mG G) (C : jX E G cc nL RX6 fr lo) (hd : decode cc pc = .ok (.getfield 53, 3)) (kk : J E G (pc + 3) lv (.ref (jad G 15) :: st) S) : J E G pc lv (.ref (jad G 0) :: st) S := J_get (k := 0) (j := 18) (c := 17) C (by rw [hG.2]; decide) (by rw [hG.1]; rfl) rfl ku_X6 (by decide) kf_X6_53 rfl hd kk
theorem g_X6_56 {E : jEnv} {G : jG} {cc : ByteArray} {nL fr lo pc : Nat} {lv : List (Nat × Value)} {st : List Value} {S : jMem} (hG : mG G) (C : jX E G cc nL RX6 fr lo) (hd : decode cc pc = .ok (.getfield 56, 3)) (kk : J E G (pc + 3) lv (.ref (jad G 16) :: st) S) : J E G pc lv (.ref (jad G 0) :: st) S := J_get (k := 0) (j := 19) (c := 18) C (by rw [hG.2]; decide) (by rw [hG.1]; rfl) rfl ku_X6 (by decide) kf_X6_56 rfl hd kk
theorem g_X6_59 {E : jEnv} {G : jG} {cc : ByteArray} {nL fr lo pc : Nat} {lv : List (Nat × Value)} {st : List Value} {S : jMem} (hG : mG G) (C : jX E G cc nL RX6 fr lo) (hd : decode cc pc = .ok (.getfield 59, 3)) (kk : J E G (pc + 3) lv (.ref (jad G 17) :: st) S) : J E G pc lv (.ref (jad G 0) :: st) S := J_get (k := 0) (j := 20) (c := 19) C (by rw [hG.2]; decide) (by rw [hG.1]; rfl) rfl ku_X6 (by decide) kf_X6_59 rfl hd kk
theorem g_X6_174 {E : jEnv} {G : jG} {cc : ByteArray} {nL fr lo pc : Nat} {lv : List (Nat × Value)} {st : List Value} {S : jMem} (hG : mG G) (C : jX E G cc nL RX6 fr lo) (hd : decode cc pc = .ok (.getfield 174, 3)) (kk : J E G (pc + 3) lv (.int (iI (S 0 21)) :: st) S) : J E G pc lv (.ref (jad G 0) :: st) S := J_get (k := 0) (j := 21) (c := 0) C (by rw [hG.2]; decide) (by rw [hG.1]; rfl) rfl ku_X6 (by decide) kf_X6_174 rfl hd kk
theorem p_X6_174 {E : jEnv} {G : jG} {cc : ByteArray} {nL fr lo pc : Nat} {lv : List (Nat × Value)} {st : List Value} {S : jMem} {x : Int} (hG : mG G) (C : jX E G cc nL RX6 fr lo) (hd : decode cc pc = .ok (.putfield 174, 3)) (kk : J E G (pc + 3) lv st (up2 S 0 21 x)) : J E G pc lv (.int (iI x) :: .ref (jad G 0) :: st) S := J_put (k := 0) (j := 21) (c := 0) C (by rw [hG.2]; decide) (by rw [hG.1]; rfl) rfl ku_X6 tyX6 tyX6_ok nmX6 (by decide) kf_X6_174 rfl rfl rfl rfl hd kk
theorem g_X6_62 {E : jEnv} {G : jG} {cc : ByteArray} {nL fr lo pc : Nat} {lv : List (Nat × Value)} {st : List Value} {S : jMem} (hG : mG G) (C : jX E G cc nL RX6 fr lo) (hd : decode cc pc = .ok (.getfield 62, 3)) (kk : J E G (pc + 3) lv (.ref (jad G 18) :: st) S) : J E G pc lv (.ref (jad G 0) :: st) S := J_get (k := 0) (j := 22) (c := 20) C (by rw [hG.2]; decide) (by rw [hG.1]; rfl) rfl ku_X6 (by decide) kf_X6_62 rfl hd kk
theorem g_X6_65 {E : jEnv} {G : jG} {cc : ByteArray} {nL fr lo pc : Nat} {lv : List (Nat × Value)} {st : List Value} {S : jMem} (hG : mG G) (C : jX E G cc nL RX6 fr lo) (hd : decode cc pc = .ok (.getfield 65, 3)) (kk : J E G (pc + 3) lv (.ref (jad G 19) :: st) S) : J E G pc lv (.ref (jad G 0) :: st) S := J_get (k := 0) (j := 23) (c := 21) C (by rw [hG.2]; decide) (by rw [hG.1]; rfl) rfl ku_X6 (by decide) kf_X6_65 rfl hd kk
theorem g_X6_68 {E : jEnv} {G : jG} {cc : ByteArray} {nL fr lo pc : Nat} {lv : List (Nat × Value)} {st : List Value} {S : jMem} (hG : mG G) (C : jX E G cc nL RX6 fr lo) (hd : decode cc pc = .ok (.getfield 68, 3)) (kk : J E G (pc + 3) lv (.ref (jad G 20) :: st) S) : J E G pc lv (.ref (jad G 0) :: st) S := J_get (k := 0) (j := 24) (c := 22) C (by rw [hG.2]; decide) (by rw [hG.1]; rfl) rfl ku_X6 (by decide) kf_X6_68 rfl hd kk
theorem g_X6_114 {E : jEnv} {G : jG} {cc : ByteArray} {nL fr lo pc : Nat} {lv : List (Nat × Value)} {st : List Value} {S : jMem} (hG : mG G) (C : jX E G cc nL RX6 fr lo) (hd : decode cc pc = .ok (.getfield 114, 3)) (kk : J E G (pc + 3) lv (.int (iI (S 0 25)) :: st) S) : J E G pc lv (.ref (jad G 0) :: st) S := J_get (k := 0) (j := 25) (c := 0) C (by rw [hG.2]; decide) (by rw [hG.1]; rfl) rfl ku_X6 (by decide) kf_X6_114 rfl hd kk
theorem p_X6_114 {E : jEnv} {G : jG} {cc : ByteArray} {nL fr lo pc : Nat} {lv : List (Nat × Value)} {st : List Value} {S : jMem} {x : Int} (hG : mG G) (C : jX E G cc nL RX6 fr lo) (hx : x = 0 ∨ x = 1) (hd : decode cc pc = .ok (.putfield 114, 3)) (kk : J E G (pc + 3) lv st (up2 S 0 25 x)) : J E G pc lv (.int (iI x) :: .ref (jad G 0) :: st) S := J_put (k := 0) (j := 25) (c := 0) C (by rw [hG.2]; decide) (by rw [hG.1]; rfl) rfl ku_X6 tyX6 tyX6_ok nmX6 (by decide) kf_X6_114 rfl rfl (by rcases hx with rfl | rfl <;> rfl) (by rcases hx with rfl | rfl <;> rfl) hd kk
theorem g_X6_71 {E : jEnv} {G : jG} {cc : ByteArray} {nL fr lo pc : Nat} {lv : List (Nat × Value)} {st : List Value} {S : jMem} (hG : mG G) (C : jX E G cc nL RX6 fr lo) (hd : decode cc pc = .ok (.getfield 71, 3)) (kk : J E G (pc + 3) lv (.ref (jad G 21) :: st) S) : J E G pc lv (.ref (jad G 0) :: st) S := J_get (k := 0) (j := 26) (c := 23) C (by rw [hG.2]; decide) (by rw [hG.1]; rfl) rfl ku_X6 (by decide) kf_X6_71 rfl hd kk
theorem cald {E : jEnv} {G : jG} {cc : ByteArray} {nL fr lo pc : Nat} {lv : List (Nat × Value)} {st : List Value} {S : jMem} {own : String} {a : Int} (hG : cG G) (C : jX E G cc nL own fr lo) (k n : Nat) (hk : k < 32 ∧ csh k = .inr (false, n) ∧ n ≤ 2147483647) (hd : decode cc pc = .ok (.iaload, 1)) (h0 : 0 ≤ a) (h1 : a < n) (kk : J E G (pc + 1) lv (.int (iI (S k a)) :: st) S) : J E G pc lv (.int (iI a) :: .ref (jad G k) :: st) S := J_ald C (by rw [hG.2]; exact hk.1) (by rw [hG.1]; exact hk.2.1) hk.2.2 h0 h1 hd kk
theorem cast {E : jEnv} {G : jG} {cc : ByteArray} {nL fr lo pc : Nat} {lv : List (Nat × Value)} {st : List Value} {S : jMem} {own : String} {a x : Int} (hG : cG G) (C : jX E G cc nL own fr lo) (k n : Nat) (hk : k < 32 ∧ csh k = .inr (false, n) ∧ n ≤ 2147483647) (hd : decode cc pc = .ok (.iastore, 1)) (h0 : 0 ≤ a) (h1 : a < n) (kk : J E G (pc + 1) lv st (up2 S k a x)) : J E G pc lv (.int (iI x) :: .int (iI a) :: .ref (jad G k) :: st) S := J_ast C (by rw [hG.2]; exact hk.1) (by rw [hG.1]; exact hk.2.1) hk.2.2 h0 h1 hd kk
theorem mald {E : jEnv} {G : jG} {cc : ByteArray} {nL fr lo pc : Nat} {lv : List (Nat × Value)} {st : List Value} {S : jMem} {own : String} {a : Int} (hG : mG G) (C : jX E G cc nL own fr lo) (k n : Nat) (hk : k < 22 ∧ msh k = .inr (false, n) ∧ n ≤ 2147483647) (hd : decode cc pc = .ok (.iaload, 1)) (h0 : 0 ≤ a) (h1 : a < n) (kk : J E G (pc + 1) lv (.int (iI (S k a)) :: st) S) : J E G pc lv (.int (iI a) :: .ref (jad G k) :: st) S := J_ald C (by rw [hG.2]; exact hk.1) (by rw [hG.1]; exact hk.2.1) hk.2.2 h0 h1 hd kk
theorem mast {E : jEnv} {G : jG} {cc : ByteArray} {nL fr lo pc : Nat} {lv : List (Nat × Value)} {st : List Value} {S : jMem} {own : String} {a x : Int} (hG : mG G) (C : jX E G cc nL own fr lo) (k n : Nat) (hk : k < 22 ∧ msh k = .inr (false, n) ∧ n ≤ 2147483647) (hd : decode cc pc = .ok (.iastore, 1)) (h0 : 0 ≤ a) (h1 : a < n) (kk : J E G (pc + 1) lv st (up2 S k a x)) : J E G pc lv (.int (iI x) :: .int (iI a) :: .ref (jad G k) :: st) S := J_ast C (by rw [hG.2]; exact hk.1) (by rw [hG.1]; exact hk.2.1) hk.2.2 h0 h1 hd kk
end
section
theorem dJ6_bitCount_0f7a4_0 : decode cJ6_bitCount_0f7a4 0 = .ok (.iload_n 0, 1) := by decide +kernel
theorem dJ6_bitCount_0f7a4_1 : decode cJ6_bitCount_0f7a4 1 = .ok (.iload_n 0, 1) := by decide +kernel
theorem dJ6_bitCount_0f7a4_2 : decode cJ6_bitCount_0f7a4 2 = .ok (.iconst 1, 1) := by decide +kernel
theorem dJ6_bitCount_0f7a4_3 : decode cJ6_bitCount_0f7a4 3 = .ok (.iushr, 1) := by decide +kernel
theorem dJ6_bitCount_0f7a4_4 : decode cJ6_bitCount_0f7a4 4 = .ok (.ldc_w 265, 3) := by decide +kernel
theorem dJ6_bitCount_0f7a4_7 : decode cJ6_bitCount_0f7a4 7 = .ok (.iand, 1) := by decide +kernel
theorem dJ6_bitCount_0f7a4_8 : decode cJ6_bitCount_0f7a4 8 = .ok (.isub, 1) := by decide +kernel
theorem dJ6_bitCount_0f7a4_9 : decode cJ6_bitCount_0f7a4 9 = .ok (.istore_n 0, 1) := by decide +kernel
theorem dJ6_bitCount_0f7a4_10 : decode cJ6_bitCount_0f7a4 10 = .ok (.iload_n 0, 1) := by decide +kernel
theorem dJ6_bitCount_0f7a4_11 : decode cJ6_bitCount_0f7a4 11 = .ok (.ldc_w 266, 3) := by decide +kernel
theorem dJ6_bitCount_0f7a4_14 : decode cJ6_bitCount_0f7a4 14 = .ok (.iand, 1) := by decide +kernel
theorem dJ6_bitCount_0f7a4_15 : decode cJ6_bitCount_0f7a4 15 = .ok (.iload_n 0, 1) := by decide +kernel
theorem dJ6_bitCount_0f7a4_16 : decode cJ6_bitCount_0f7a4 16 = .ok (.iconst 2, 1) := by decide +kernel
theorem dJ6_bitCount_0f7a4_17 : decode cJ6_bitCount_0f7a4 17 = .ok (.iushr, 1) := by decide +kernel
theorem dJ6_bitCount_0f7a4_18 : decode cJ6_bitCount_0f7a4 18 = .ok (.ldc_w 266, 3) := by decide +kernel
theorem dJ6_bitCount_0f7a4_21 : decode cJ6_bitCount_0f7a4 21 = .ok (.iand, 1) := by decide +kernel
theorem dJ6_bitCount_0f7a4_22 : decode cJ6_bitCount_0f7a4 22 = .ok (.iadd, 1) := by decide +kernel
theorem dJ6_bitCount_0f7a4_23 : decode cJ6_bitCount_0f7a4 23 = .ok (.istore_n 0, 1) := by decide +kernel
theorem dJ6_bitCount_0f7a4_24 : decode cJ6_bitCount_0f7a4 24 = .ok (.iload_n 0, 1) := by decide +kernel
theorem dJ6_bitCount_0f7a4_25 : decode cJ6_bitCount_0f7a4 25 = .ok (.iload_n 0, 1) := by decide +kernel
theorem dJ6_bitCount_0f7a4_26 : decode cJ6_bitCount_0f7a4 26 = .ok (.iconst 4, 1) := by decide +kernel
theorem dJ6_bitCount_0f7a4_27 : decode cJ6_bitCount_0f7a4 27 = .ok (.iushr, 1) := by decide +kernel
theorem dJ6_bitCount_0f7a4_28 : decode cJ6_bitCount_0f7a4 28 = .ok (.iadd, 1) := by decide +kernel
theorem dJ6_bitCount_0f7a4_29 : decode cJ6_bitCount_0f7a4 29 = .ok (.ldc_w 267, 3) := by decide +kernel
theorem dJ6_bitCount_0f7a4_32 : decode cJ6_bitCount_0f7a4 32 = .ok (.iand, 1) := by decide +kernel
theorem dJ6_bitCount_0f7a4_33 : decode cJ6_bitCount_0f7a4 33 = .ok (.istore_n 0, 1) := by decide +kernel
theorem dJ6_bitCount_0f7a4_34 : decode cJ6_bitCount_0f7a4 34 = .ok (.iload_n 0, 1) := by decide +kernel
theorem dJ6_bitCount_0f7a4_35 : decode cJ6_bitCount_0f7a4 35 = .ok (.iload_n 0, 1) := by decide +kernel
theorem dJ6_bitCount_0f7a4_36 : decode cJ6_bitCount_0f7a4 36 = .ok (.bipush 8, 2) := by decide +kernel
theorem dJ6_bitCount_0f7a4_38 : decode cJ6_bitCount_0f7a4 38 = .ok (.iushr, 1) := by decide +kernel
theorem dJ6_bitCount_0f7a4_39 : decode cJ6_bitCount_0f7a4 39 = .ok (.iadd, 1) := by decide +kernel
theorem dJ6_bitCount_0f7a4_40 : decode cJ6_bitCount_0f7a4 40 = .ok (.istore_n 0, 1) := by decide +kernel
theorem dJ6_bitCount_0f7a4_41 : decode cJ6_bitCount_0f7a4 41 = .ok (.iload_n 0, 1) := by decide +kernel
theorem dJ6_bitCount_0f7a4_42 : decode cJ6_bitCount_0f7a4 42 = .ok (.iload_n 0, 1) := by decide +kernel
theorem dJ6_bitCount_0f7a4_43 : decode cJ6_bitCount_0f7a4 43 = .ok (.bipush 16, 2) := by decide +kernel
theorem dJ6_bitCount_0f7a4_45 : decode cJ6_bitCount_0f7a4 45 = .ok (.iushr, 1) := by decide +kernel
theorem dJ6_bitCount_0f7a4_46 : decode cJ6_bitCount_0f7a4 46 = .ok (.iadd, 1) := by decide +kernel
theorem dJ6_bitCount_0f7a4_47 : decode cJ6_bitCount_0f7a4 47 = .ok (.istore_n 0, 1) := by decide +kernel
theorem dJ6_bitCount_0f7a4_48 : decode cJ6_bitCount_0f7a4 48 = .ok (.iload_n 0, 1) := by decide +kernel
theorem dJ6_bitCount_0f7a4_49 : decode cJ6_bitCount_0f7a4 49 = .ok (.bipush 63, 2) := by decide +kernel
theorem dJ6_bitCount_0f7a4_51 : decode cJ6_bitCount_0f7a4 51 = .ok (.iand, 1) := by decide +kernel
theorem dJ6_bitCount_0f7a4_52 : decode cJ6_bitCount_0f7a4 52 = .ok (.ireturn, 1) := by decide +kernel
theorem dJ9_max_7cf53_0 : decode cJ9_max_7cf53 0 = .ok (.iload_n 0, 1) := by decide +kernel
theorem dJ9_max_7cf53_1 : decode cJ9_max_7cf53 1 = .ok (.iload_n 1, 1) := by decide +kernel
theorem dJ9_max_7cf53_2 : decode cJ9_max_7cf53 2 = .ok (.if_icmp .lt 7, 3) := by decide +kernel
theorem dJ9_max_7cf53_5 : decode cJ9_max_7cf53 5 = .ok (.iload_n 0, 1) := by decide +kernel
theorem dJ9_max_7cf53_6 : decode cJ9_max_7cf53 6 = .ok (.goto 4, 3) := by decide +kernel
theorem dJ9_max_7cf53_9 : decode cJ9_max_7cf53 9 = .ok (.iload_n 1, 1) := by decide +kernel
theorem dJ9_max_7cf53_10 : decode cJ9_max_7cf53 10 = .ok (.ireturn, 1) := by decide +kernel
theorem dJ9_min_7cf53_0 : decode cJ9_min_7cf53 0 = .ok (.iload_n 0, 1) := by decide +kernel
theorem dJ9_min_7cf53_1 : decode cJ9_min_7cf53 1 = .ok (.iload_n 1, 1) := by decide +kernel
theorem dJ9_min_7cf53_2 : decode cJ9_min_7cf53 2 = .ok (.if_icmp .gt 7, 3) := by decide +kernel
theorem dJ9_min_7cf53_5 : decode cJ9_min_7cf53 5 = .ok (.iload_n 0, 1) := by decide +kernel
theorem dJ9_min_7cf53_6 : decode cJ9_min_7cf53 6 = .ok (.goto 4, 3) := by decide +kernel
theorem dJ9_min_7cf53_9 : decode cJ9_min_7cf53 9 = .ok (.iload_n 1, 1) := by decide +kernel
theorem dJ9_min_7cf53_10 : decode cJ9_min_7cf53 10 = .ok (.ireturn, 1) := by decide +kernel
theorem dX4_init_0 : decode cX4_init 0 = .ok (.aload_n 0, 1) := by decide +kernel
theorem dX4_init_1 : decode cX4_init 1 = .ok (.invokespecial 3, 3) := by decide +kernel
theorem dX4_init_4 : decode cX4_init 4 = .ok (.aload_n 0, 1) := by decide +kernel
theorem dX4_init_5 : decode cX4_init 5 = .ok (.iconst 3, 1) := by decide +kernel
theorem dX4_init_6 : decode cX4_init 6 = .ok (.newarray .int, 2) := by decide +kernel
theorem dX4_init_8 : decode cX4_init 8 = .ok (.dup, 1) := by decide +kernel
theorem dX4_init_9 : decode cX4_init 9 = .ok (.iconst 0, 1) := by decide +kernel
theorem dX4_init_10 : decode cX4_init 10 = .ok (.bipush 10, 2) := by decide +kernel
theorem dX4_init_12 : decode cX4_init 12 = .ok (.iastore, 1) := by decide +kernel
theorem dX4_init_13 : decode cX4_init 13 = .ok (.dup, 1) := by decide +kernel
theorem dX4_init_14 : decode cX4_init 14 = .ok (.iconst 1, 1) := by decide +kernel
theorem dX4_init_15 : decode cX4_init 15 = .ok (.bipush 10, 2) := by decide +kernel
theorem dX4_init_17 : decode cX4_init 17 = .ok (.iastore, 1) := by decide +kernel
theorem dX4_init_18 : decode cX4_init 18 = .ok (.dup, 1) := by decide +kernel
theorem dX4_init_19 : decode cX4_init 19 = .ok (.iconst 2, 1) := by decide +kernel
theorem dX4_init_20 : decode cX4_init 20 = .ok (.bipush 10, 2) := by decide +kernel
theorem dX4_init_22 : decode cX4_init 22 = .ok (.iastore, 1) := by decide +kernel
theorem dX4_init_23 : decode cX4_init 23 = .ok (.putfield 9, 3) := by decide +kernel
theorem dX4_init_26 : decode cX4_init 26 = .ok (.aload_n 0, 1) := by decide +kernel
theorem dX4_init_27 : decode cX4_init 27 = .ok (.bipush 24, 2) := by decide +kernel
theorem dX4_init_29 : decode cX4_init 29 = .ok (.newarray .int, 2) := by decide +kernel
theorem dX4_init_31 : decode cX4_init 31 = .ok (.putfield 15, 3) := by decide +kernel
theorem dX4_init_34 : decode cX4_init 34 = .ok (.aload_n 0, 1) := by decide +kernel
theorem dX4_init_35 : decode cX4_init 35 = .ok (.bipush 8, 2) := by decide +kernel
theorem dX4_init_37 : decode cX4_init 37 = .ok (.newarray .int, 2) := by decide +kernel
theorem dX4_init_39 : decode cX4_init 39 = .ok (.putfield 18, 3) := by decide +kernel
theorem dX4_init_42 : decode cX4_init 42 = .ok (.aload_n 0, 1) := by decide +kernel
theorem dX4_init_43 : decode cX4_init 43 = .ok (.bipush 8, 2) := by decide +kernel
theorem dX4_init_45 : decode cX4_init 45 = .ok (.newarray .int, 2) := by decide +kernel
theorem dX4_init_47 : decode cX4_init 47 = .ok (.putfield 21, 3) := by decide +kernel
theorem dX4_init_50 : decode cX4_init 50 = .ok (.return_, 1) := by decide +kernel
theorem dX4_append_0 : decode cX4_append 0 = .ok (.aload_n 0, 1) := by decide +kernel
theorem dX4_append_1 : decode cX4_append 1 = .ok (.getfield 24, 3) := by decide +kernel
theorem dX4_append_4 : decode cX4_append 4 = .ok (.bipush 8, 2) := by decide +kernel
theorem dX4_append_6 : decode cX4_append 6 = .ok (.if_icmp .lt 4, 3) := by decide +kernel
theorem dX4_append_9 : decode cX4_append 9 = .ok (.return_, 1) := by decide +kernel
theorem dX4_append_10 : decode cX4_append 10 = .ok (.aload_n 0, 1) := by decide +kernel
theorem dX4_append_11 : decode cX4_append 11 = .ok (.getfield 15, 3) := by decide +kernel
theorem dX4_append_14 : decode cX4_append 14 = .ok (.aload_n 0, 1) := by decide +kernel
theorem dX4_append_15 : decode cX4_append 15 = .ok (.getfield 24, 3) := by decide +kernel
theorem dX4_append_18 : decode cX4_append 18 = .ok (.iconst 3, 1) := by decide +kernel
theorem dX4_append_19 : decode cX4_append 19 = .ok (.imul, 1) := by decide +kernel
theorem dX4_append_20 : decode cX4_append 20 = .ok (.iload_n 1, 1) := by decide +kernel
theorem dX4_append_21 : decode cX4_append 21 = .ok (.iastore, 1) := by decide +kernel
theorem dX4_append_22 : decode cX4_append 22 = .ok (.aload_n 0, 1) := by decide +kernel
theorem dX4_append_23 : decode cX4_append 23 = .ok (.getfield 15, 3) := by decide +kernel
theorem dX4_append_26 : decode cX4_append 26 = .ok (.aload_n 0, 1) := by decide +kernel
theorem dX4_append_27 : decode cX4_append 27 = .ok (.getfield 24, 3) := by decide +kernel
theorem dX4_append_30 : decode cX4_append 30 = .ok (.iconst 3, 1) := by decide +kernel
theorem dX4_append_31 : decode cX4_append 31 = .ok (.imul, 1) := by decide +kernel
theorem dX4_append_32 : decode cX4_append 32 = .ok (.iconst 1, 1) := by decide +kernel
theorem dX4_append_33 : decode cX4_append 33 = .ok (.iadd, 1) := by decide +kernel
theorem dX4_append_34 : decode cX4_append 34 = .ok (.iload_n 2, 1) := by decide +kernel
theorem dX4_append_35 : decode cX4_append 35 = .ok (.iastore, 1) := by decide +kernel
theorem dX4_append_36 : decode cX4_append 36 = .ok (.aload_n 0, 1) := by decide +kernel
theorem dX4_append_37 : decode cX4_append 37 = .ok (.getfield 15, 3) := by decide +kernel
theorem dX4_append_40 : decode cX4_append 40 = .ok (.aload_n 0, 1) := by decide +kernel
theorem dX4_append_41 : decode cX4_append 41 = .ok (.getfield 24, 3) := by decide +kernel
theorem dX4_append_44 : decode cX4_append 44 = .ok (.iconst 3, 1) := by decide +kernel
theorem dX4_append_45 : decode cX4_append 45 = .ok (.imul, 1) := by decide +kernel
theorem dX4_append_46 : decode cX4_append 46 = .ok (.iconst 2, 1) := by decide +kernel
theorem dX4_append_47 : decode cX4_append 47 = .ok (.iadd, 1) := by decide +kernel
theorem dX4_append_48 : decode cX4_append 48 = .ok (.iload_n 3, 1) := by decide +kernel
theorem dX4_append_49 : decode cX4_append 49 = .ok (.iastore, 1) := by decide +kernel
theorem dX4_append_50 : decode cX4_append 50 = .ok (.aload_n 0, 1) := by decide +kernel
theorem dX4_append_51 : decode cX4_append 51 = .ok (.getfield 18, 3) := by decide +kernel
theorem dX4_append_54 : decode cX4_append 54 = .ok (.aload_n 0, 1) := by decide +kernel
theorem dX4_append_55 : decode cX4_append 55 = .ok (.getfield 24, 3) := by decide +kernel
theorem dX4_append_58 : decode cX4_append 58 = .ok (.iconst 1, 1) := by decide +kernel
theorem dX4_append_59 : decode cX4_append 59 = .ok (.iastore, 1) := by decide +kernel
theorem dX4_append_60 : decode cX4_append 60 = .ok (.aload_n 0, 1) := by decide +kernel
theorem dX4_append_61 : decode cX4_append 61 = .ok (.getfield 21, 3) := by decide +kernel
theorem dX4_append_64 : decode cX4_append 64 = .ok (.aload_n 0, 1) := by decide +kernel
theorem dX4_append_65 : decode cX4_append 65 = .ok (.getfield 24, 3) := by decide +kernel
theorem dX4_append_68 : decode cX4_append 68 = .ok (.iconst 1, 1) := by decide +kernel
theorem dX4_append_69 : decode cX4_append 69 = .ok (.iastore, 1) := by decide +kernel
theorem dX4_append_70 : decode cX4_append 70 = .ok (.aload_n 0, 1) := by decide +kernel
theorem dX4_append_71 : decode cX4_append 71 = .ok (.dup, 1) := by decide +kernel
theorem dX4_append_72 : decode cX4_append 72 = .ok (.getfield 24, 3) := by decide +kernel
theorem dX4_append_75 : decode cX4_append 75 = .ok (.iconst 1, 1) := by decide +kernel
theorem dX4_append_76 : decode cX4_append 76 = .ok (.iadd, 1) := by decide +kernel
theorem dX4_append_77 : decode cX4_append 77 = .ok (.putfield 24, 3) := by decide +kernel
theorem dX4_append_80 : decode cX4_append 80 = .ok (.return_, 1) := by decide +kernel
theorem dX4_isBox_0 : decode cX4_isBox 0 = .ok (.iload_n 1, 1) := by decide +kernel
theorem dX4_isBox_1 : decode cX4_isBox 1 = .ok (.ifCond .lt 15, 3) := by decide +kernel
theorem dX4_isBox_4 : decode cX4_isBox 4 = .ok (.iload_n 1, 1) := by decide +kernel
theorem dX4_isBox_5 : decode cX4_isBox 5 = .ok (.aload_n 0, 1) := by decide +kernel
theorem dX4_isBox_6 : decode cX4_isBox 6 = .ok (.getfield 24, 3) := by decide +kernel
theorem dX4_isBox_9 : decode cX4_isBox 9 = .ok (.if_icmp .ge 7, 3) := by decide +kernel
theorem dX4_isBox_12 : decode cX4_isBox 12 = .ok (.iconst 1, 1) := by decide +kernel
theorem dX4_isBox_13 : decode cX4_isBox 13 = .ok (.goto 4, 3) := by decide +kernel
theorem dX4_isBox_16 : decode cX4_isBox 16 = .ok (.iconst 0, 1) := by decide +kernel
theorem dX4_isBox_17 : decode cX4_isBox 17 = .ok (.ireturn, 1) := by decide +kernel
theorem dX4_allBoxes_0 : decode cX4_allBoxes 0 = .ok (.iconst 1, 1) := by decide +kernel
theorem dX4_allBoxes_1 : decode cX4_allBoxes 1 = .ok (.aload_n 0, 1) := by decide +kernel
theorem dX4_allBoxes_2 : decode cX4_allBoxes 2 = .ok (.getfield 24, 3) := by decide +kernel
theorem dX4_allBoxes_5 : decode cX4_allBoxes 5 = .ok (.ishl, 1) := by decide +kernel
theorem dX4_allBoxes_6 : decode cX4_allBoxes 6 = .ok (.iconst 1, 1) := by decide +kernel
theorem dX4_allBoxes_7 : decode cX4_allBoxes 7 = .ok (.isub, 1) := by decide +kernel
theorem dX4_allBoxes_8 : decode cX4_allBoxes 8 = .ok (.ireturn, 1) := by decide +kernel
theorem dX4_extent_0 : decode cX4_extent 0 = .ok (.aload_n 0, 1) := by decide +kernel
theorem dX4_extent_1 : decode cX4_extent 1 = .ok (.getfield 15, 3) := by decide +kernel
theorem dX4_extent_4 : decode cX4_extent 4 = .ok (.iload_n 1, 1) := by decide +kernel
theorem dX4_extent_5 : decode cX4_extent 5 = .ok (.iconst 3, 1) := by decide +kernel
theorem dX4_extent_6 : decode cX4_extent 6 = .ok (.imul, 1) := by decide +kernel
theorem dX4_extent_7 : decode cX4_extent 7 = .ok (.getstatic 28, 3) := by decide +kernel
theorem dX4_extent_10 : decode cX4_extent 10 = .ok (.iload_n 2, 1) := by decide +kernel
theorem dX4_extent_11 : decode cX4_extent 11 = .ok (.iconst 3, 1) := by decide +kernel
theorem dX4_extent_12 : decode cX4_extent 12 = .ok (.imul, 1) := by decide +kernel
theorem dX4_extent_13 : decode cX4_extent 13 = .ok (.iload_n 3, 1) := by decide +kernel
theorem dX4_extent_14 : decode cX4_extent 14 = .ok (.iadd, 1) := by decide +kernel
theorem dX4_extent_15 : decode cX4_extent 15 = .ok (.iaload, 1) := by decide +kernel
theorem dX4_extent_16 : decode cX4_extent 16 = .ok (.iadd, 1) := by decide +kernel
theorem dX4_extent_17 : decode cX4_extent 17 = .ok (.iaload, 1) := by decide +kernel
theorem dX4_extent_18 : decode cX4_extent 18 = .ok (.ireturn, 1) := by decide +kernel
theorem dX4_volume_0 : decode cX4_volume 0 = .ok (.aload_n 0, 1) := by decide +kernel
theorem dX4_volume_1 : decode cX4_volume 1 = .ok (.getfield 15, 3) := by decide +kernel
theorem dX4_volume_4 : decode cX4_volume 4 = .ok (.iload_n 1, 1) := by decide +kernel
theorem dX4_volume_5 : decode cX4_volume 5 = .ok (.iconst 3, 1) := by decide +kernel
theorem dX4_volume_6 : decode cX4_volume 6 = .ok (.imul, 1) := by decide +kernel
theorem dX4_volume_7 : decode cX4_volume 7 = .ok (.iaload, 1) := by decide +kernel
theorem dX4_volume_8 : decode cX4_volume 8 = .ok (.aload_n 0, 1) := by decide +kernel
theorem dX4_volume_9 : decode cX4_volume 9 = .ok (.getfield 15, 3) := by decide +kernel
theorem dX4_volume_12 : decode cX4_volume 12 = .ok (.iload_n 1, 1) := by decide +kernel
theorem dX4_volume_13 : decode cX4_volume 13 = .ok (.iconst 3, 1) := by decide +kernel
theorem dX4_volume_14 : decode cX4_volume 14 = .ok (.imul, 1) := by decide +kernel
theorem dX4_volume_15 : decode cX4_volume 15 = .ok (.iconst 1, 1) := by decide +kernel
theorem dX4_volume_16 : decode cX4_volume 16 = .ok (.iadd, 1) := by decide +kernel
theorem dX4_volume_17 : decode cX4_volume 17 = .ok (.iaload, 1) := by decide +kernel
theorem dX4_volume_18 : decode cX4_volume 18 = .ok (.imul, 1) := by decide +kernel
theorem dX4_volume_19 : decode cX4_volume 19 = .ok (.aload_n 0, 1) := by decide +kernel
theorem dX4_volume_20 : decode cX4_volume 20 = .ok (.getfield 15, 3) := by decide +kernel
theorem dX4_volume_23 : decode cX4_volume 23 = .ok (.iload_n 1, 1) := by decide +kernel
theorem dX4_volume_24 : decode cX4_volume 24 = .ok (.iconst 3, 1) := by decide +kernel
theorem dX4_volume_25 : decode cX4_volume 25 = .ok (.imul, 1) := by decide +kernel
theorem dX4_volume_26 : decode cX4_volume 26 = .ok (.iconst 2, 1) := by decide +kernel
theorem dX4_volume_27 : decode cX4_volume 27 = .ok (.iadd, 1) := by decide +kernel
theorem dX4_volume_28 : decode cX4_volume 28 = .ok (.iaload, 1) := by decide +kernel
theorem dX4_volume_29 : decode cX4_volume 29 = .ok (.imul, 1) := by decide +kernel
theorem dX4_volume_30 : decode cX4_volume 30 = .ok (.ireturn, 1) := by decide +kernel
theorem dX4_hasTurn_0 : decode cX4_hasTurn 0 = .ok (.aload_n 0, 1) := by decide +kernel
theorem dX4_hasTurn_1 : decode cX4_hasTurn 1 = .ok (.getfield 18, 3) := by decide +kernel
theorem dX4_hasTurn_4 : decode cX4_hasTurn 4 = .ok (.iload_n 1, 1) := by decide +kernel
theorem dX4_hasTurn_5 : decode cX4_hasTurn 5 = .ok (.iaload, 1) := by decide +kernel
theorem dX4_hasTurn_6 : decode cX4_hasTurn 6 = .ok (.iload_n 2, 1) := by decide +kernel
theorem dX4_hasTurn_7 : decode cX4_hasTurn 7 = .ok (.ishr, 1) := by decide +kernel
theorem dX4_hasTurn_8 : decode cX4_hasTurn 8 = .ok (.iconst 1, 1) := by decide +kernel
theorem dX4_hasTurn_9 : decode cX4_hasTurn 9 = .ok (.iand, 1) := by decide +kernel
theorem dX4_hasTurn_10 : decode cX4_hasTurn 10 = .ok (.iconst 1, 1) := by decide +kernel
theorem dX4_hasTurn_11 : decode cX4_hasTurn 11 = .ok (.if_icmp .ne 7, 3) := by decide +kernel
theorem dX4_hasTurn_14 : decode cX4_hasTurn 14 = .ok (.iconst 1, 1) := by decide +kernel
theorem dX4_hasTurn_15 : decode cX4_hasTurn 15 = .ok (.goto 4, 3) := by decide +kernel
theorem dX4_hasTurn_18 : decode cX4_hasTurn 18 = .ok (.iconst 0, 1) := by decide +kernel
theorem dX4_hasTurn_19 : decode cX4_hasTurn 19 = .ok (.ireturn, 1) := by decide +kernel
theorem dX4_sameExtents_0 : decode cX4_sameExtents 0 = .ok (.aload_n 0, 1) := by decide +kernel
theorem dX4_sameExtents_1 : decode cX4_sameExtents 1 = .ok (.iload_n 1, 1) := by decide +kernel
theorem dX4_sameExtents_2 : decode cX4_sameExtents 2 = .ok (.iload_n 2, 1) := by decide +kernel
theorem dX4_sameExtents_3 : decode cX4_sameExtents 3 = .ok (.iconst 0, 1) := by decide +kernel
theorem dX4_sameExtents_4 : decode cX4_sameExtents 4 = .ok (.invokevirtual 31, 3) := by decide +kernel
theorem dX4_sameExtents_7 : decode cX4_sameExtents 7 = .ok (.aload_n 0, 1) := by decide +kernel
theorem dX4_sameExtents_8 : decode cX4_sameExtents 8 = .ok (.iload_n 1, 1) := by decide +kernel
theorem dX4_sameExtents_9 : decode cX4_sameExtents 9 = .ok (.iload_n 3, 1) := by decide +kernel
theorem dX4_sameExtents_10 : decode cX4_sameExtents 10 = .ok (.iconst 0, 1) := by decide +kernel
theorem dX4_sameExtents_11 : decode cX4_sameExtents 11 = .ok (.invokevirtual 31, 3) := by decide +kernel
theorem dX4_sameExtents_14 : decode cX4_sameExtents 14 = .ok (.if_icmp .ne 41, 3) := by decide +kernel
theorem dX4_sameExtents_17 : decode cX4_sameExtents 17 = .ok (.aload_n 0, 1) := by decide +kernel
theorem dX4_sameExtents_18 : decode cX4_sameExtents 18 = .ok (.iload_n 1, 1) := by decide +kernel
theorem dX4_sameExtents_19 : decode cX4_sameExtents 19 = .ok (.iload_n 2, 1) := by decide +kernel
theorem dX4_sameExtents_20 : decode cX4_sameExtents 20 = .ok (.iconst 1, 1) := by decide +kernel
theorem dX4_sameExtents_21 : decode cX4_sameExtents 21 = .ok (.invokevirtual 31, 3) := by decide +kernel
theorem dX4_sameExtents_24 : decode cX4_sameExtents 24 = .ok (.aload_n 0, 1) := by decide +kernel
theorem dX4_sameExtents_25 : decode cX4_sameExtents 25 = .ok (.iload_n 1, 1) := by decide +kernel
theorem dX4_sameExtents_26 : decode cX4_sameExtents 26 = .ok (.iload_n 3, 1) := by decide +kernel
theorem dX4_sameExtents_27 : decode cX4_sameExtents 27 = .ok (.iconst 1, 1) := by decide +kernel
theorem dX4_sameExtents_28 : decode cX4_sameExtents 28 = .ok (.invokevirtual 31, 3) := by decide +kernel
theorem dX4_sameExtents_31 : decode cX4_sameExtents 31 = .ok (.if_icmp .ne 24, 3) := by decide +kernel
theorem dX4_sameExtents_34 : decode cX4_sameExtents 34 = .ok (.aload_n 0, 1) := by decide +kernel
theorem dX4_sameExtents_35 : decode cX4_sameExtents 35 = .ok (.iload_n 1, 1) := by decide +kernel
theorem dX4_sameExtents_36 : decode cX4_sameExtents 36 = .ok (.iload_n 2, 1) := by decide +kernel
theorem dX4_sameExtents_37 : decode cX4_sameExtents 37 = .ok (.iconst 2, 1) := by decide +kernel
theorem dX4_sameExtents_38 : decode cX4_sameExtents 38 = .ok (.invokevirtual 31, 3) := by decide +kernel
theorem dX4_sameExtents_41 : decode cX4_sameExtents 41 = .ok (.aload_n 0, 1) := by decide +kernel
theorem dX4_sameExtents_42 : decode cX4_sameExtents 42 = .ok (.iload_n 1, 1) := by decide +kernel
theorem dX4_sameExtents_43 : decode cX4_sameExtents 43 = .ok (.iload_n 3, 1) := by decide +kernel
theorem dX4_sameExtents_44 : decode cX4_sameExtents 44 = .ok (.iconst 2, 1) := by decide +kernel
theorem dX4_sameExtents_45 : decode cX4_sameExtents 45 = .ok (.invokevirtual 31, 3) := by decide +kernel
theorem dX4_sameExtents_48 : decode cX4_sameExtents 48 = .ok (.if_icmp .ne 7, 3) := by decide +kernel
theorem dX4_sameExtents_51 : decode cX4_sameExtents 51 = .ok (.iconst 1, 1) := by decide +kernel
theorem dX4_sameExtents_52 : decode cX4_sameExtents 52 = .ok (.goto 4, 3) := by decide +kernel
theorem dX4_sameExtents_55 : decode cX4_sameExtents 55 = .ok (.iconst 0, 1) := by decide +kernel
theorem dX4_sameExtents_56 : decode cX4_sameExtents 56 = .ok (.ireturn, 1) := by decide +kernel
theorem dX4_isShort_0 : decode cX4_isShort 0 = .ok (.aload_n 0, 1) := by decide +kernel
theorem dX4_isShort_1 : decode cX4_isShort 1 = .ok (.iload_n 1, 1) := by decide +kernel
theorem dX4_isShort_2 : decode cX4_isShort 2 = .ok (.iload_n 2, 1) := by decide +kernel
theorem dX4_isShort_3 : decode cX4_isShort 3 = .ok (.iconst 0, 1) := by decide +kernel
theorem dX4_isShort_4 : decode cX4_isShort 4 = .ok (.invokevirtual 31, 3) := by decide +kernel
theorem dX4_isShort_7 : decode cX4_isShort 7 = .ok (.aload_n 0, 1) := by decide +kernel
theorem dX4_isShort_8 : decode cX4_isShort 8 = .ok (.getfield 9, 3) := by decide +kernel
theorem dX4_isShort_11 : decode cX4_isShort 11 = .ok (.iconst 0, 1) := by decide +kernel
theorem dX4_isShort_12 : decode cX4_isShort 12 = .ok (.iaload, 1) := by decide +kernel
theorem dX4_isShort_13 : decode cX4_isShort 13 = .ok (.if_icmp .gt 39, 3) := by decide +kernel
theorem dX4_isShort_16 : decode cX4_isShort 16 = .ok (.aload_n 0, 1) := by decide +kernel
theorem dX4_isShort_17 : decode cX4_isShort 17 = .ok (.iload_n 1, 1) := by decide +kernel
theorem dX4_isShort_18 : decode cX4_isShort 18 = .ok (.iload_n 2, 1) := by decide +kernel
theorem dX4_isShort_19 : decode cX4_isShort 19 = .ok (.iconst 1, 1) := by decide +kernel
theorem dX4_isShort_20 : decode cX4_isShort 20 = .ok (.invokevirtual 31, 3) := by decide +kernel
theorem dX4_isShort_23 : decode cX4_isShort 23 = .ok (.aload_n 0, 1) := by decide +kernel
theorem dX4_isShort_24 : decode cX4_isShort 24 = .ok (.getfield 9, 3) := by decide +kernel
theorem dX4_isShort_27 : decode cX4_isShort 27 = .ok (.iconst 1, 1) := by decide +kernel
theorem dX4_isShort_28 : decode cX4_isShort 28 = .ok (.iaload, 1) := by decide +kernel
theorem dX4_isShort_29 : decode cX4_isShort 29 = .ok (.if_icmp .gt 23, 3) := by decide +kernel
theorem dX4_isShort_32 : decode cX4_isShort 32 = .ok (.aload_n 0, 1) := by decide +kernel
theorem dX4_isShort_33 : decode cX4_isShort 33 = .ok (.iload_n 1, 1) := by decide +kernel
theorem dX4_isShort_34 : decode cX4_isShort 34 = .ok (.iload_n 2, 1) := by decide +kernel
theorem dX4_isShort_35 : decode cX4_isShort 35 = .ok (.iconst 2, 1) := by decide +kernel
theorem dX4_isShort_36 : decode cX4_isShort 36 = .ok (.invokevirtual 31, 3) := by decide +kernel
theorem dX4_isShort_39 : decode cX4_isShort 39 = .ok (.aload_n 0, 1) := by decide +kernel
theorem dX4_isShort_40 : decode cX4_isShort 40 = .ok (.getfield 9, 3) := by decide +kernel
theorem dX4_isShort_43 : decode cX4_isShort 43 = .ok (.iconst 2, 1) := by decide +kernel
theorem dX4_isShort_44 : decode cX4_isShort 44 = .ok (.iaload, 1) := by decide +kernel
theorem dX4_isShort_45 : decode cX4_isShort 45 = .ok (.if_icmp .gt 7, 3) := by decide +kernel
theorem dX4_isShort_48 : decode cX4_isShort 48 = .ok (.iconst 1, 1) := by decide +kernel
theorem dX4_isShort_49 : decode cX4_isShort 49 = .ok (.goto 4, 3) := by decide +kernel
theorem dX4_isShort_52 : decode cX4_isShort 52 = .ok (.iconst 0, 1) := by decide +kernel
theorem dX4_isShort_53 : decode cX4_isShort 53 = .ok (.ireturn, 1) := by decide +kernel
theorem dX4_counts_0 : decode cX4_counts 0 = .ok (.aload_n 0, 1) := by decide +kernel
theorem dX4_counts_1 : decode cX4_counts 1 = .ok (.iload_n 1, 1) := by decide +kernel
theorem dX4_counts_2 : decode cX4_counts 2 = .ok (.iload_n 2, 1) := by decide +kernel
theorem dX4_counts_3 : decode cX4_counts 3 = .ok (.invokevirtual 35, 3) := by decide +kernel
theorem dX4_counts_6 : decode cX4_counts 6 = .ok (.ifCond .eq 12, 3) := by decide +kernel
theorem dX4_counts_9 : decode cX4_counts 9 = .ok (.aload_n 0, 1) := by decide +kernel
theorem dX4_counts_10 : decode cX4_counts 10 = .ok (.iload_n 1, 1) := by decide +kernel
theorem dX4_counts_11 : decode cX4_counts 11 = .ok (.iload_n 2, 1) := by decide +kernel
theorem dX4_counts_12 : decode cX4_counts 12 = .ok (.invokevirtual 39, 3) := by decide +kernel
theorem dX4_counts_15 : decode cX4_counts 15 = .ok (.ifCond .ne 5, 3) := by decide +kernel
theorem dX4_counts_18 : decode cX4_counts 18 = .ok (.iconst 0, 1) := by decide +kernel
theorem dX4_counts_19 : decode cX4_counts 19 = .ok (.ireturn, 1) := by decide +kernel
theorem dX4_counts_20 : decode cX4_counts 20 = .ok (.iconst 0, 1) := by decide +kernel
theorem dX4_counts_21 : decode cX4_counts 21 = .ok (.istore_n 3, 1) := by decide +kernel
theorem dX4_counts_22 : decode cX4_counts 22 = .ok (.iload_n 3, 1) := by decide +kernel
theorem dX4_counts_23 : decode cX4_counts 23 = .ok (.iload_n 2, 1) := by decide +kernel
theorem dX4_counts_24 : decode cX4_counts 24 = .ok (.if_icmp .ge 30, 3) := by decide +kernel
theorem dX4_counts_27 : decode cX4_counts 27 = .ok (.aload_n 0, 1) := by decide +kernel
theorem dX4_counts_28 : decode cX4_counts 28 = .ok (.iload_n 1, 1) := by decide +kernel
theorem dX4_counts_29 : decode cX4_counts 29 = .ok (.iload_n 3, 1) := by decide +kernel
theorem dX4_counts_30 : decode cX4_counts 30 = .ok (.invokevirtual 35, 3) := by decide +kernel
theorem dX4_counts_33 : decode cX4_counts 33 = .ok (.ifCond .eq 15, 3) := by decide +kernel
theorem dX4_counts_36 : decode cX4_counts 36 = .ok (.aload_n 0, 1) := by decide +kernel
theorem dX4_counts_37 : decode cX4_counts 37 = .ok (.iload_n 1, 1) := by decide +kernel
theorem dX4_counts_38 : decode cX4_counts 38 = .ok (.iload_n 3, 1) := by decide +kernel
theorem dX4_counts_39 : decode cX4_counts 39 = .ok (.iload_n 2, 1) := by decide +kernel
theorem dX4_counts_40 : decode cX4_counts 40 = .ok (.invokevirtual 42, 3) := by decide +kernel
theorem dX4_counts_43 : decode cX4_counts 43 = .ok (.ifCond .eq 5, 3) := by decide +kernel
theorem dX4_counts_46 : decode cX4_counts 46 = .ok (.iconst 0, 1) := by decide +kernel
theorem dX4_counts_47 : decode cX4_counts 47 = .ok (.ireturn, 1) := by decide +kernel
theorem dX4_counts_48 : decode cX4_counts 48 = .ok (.iinc 3 1, 3) := by decide +kernel
theorem dX4_counts_51 : decode cX4_counts 51 = .ok (.goto (-29), 3) := by decide +kernel
theorem dX4_counts_54 : decode cX4_counts 54 = .ok (.iconst 1, 1) := by decide +kernel
theorem dX4_counts_55 : decode cX4_counts 55 = .ok (.ireturn, 1) := by decide +kernel
theorem dX4_isPlace_0 : decode cX4_isPlace 0 = .ok (.aload_n 0, 1) := by decide +kernel
theorem dX4_isPlace_1 : decode cX4_isPlace 1 = .ok (.iload_n 1, 1) := by decide +kernel
theorem dX4_isPlace_2 : decode cX4_isPlace 2 = .ok (.invokevirtual 46, 3) := by decide +kernel
theorem dX4_isPlace_5 : decode cX4_isPlace 5 = .ok (.ifCond .eq 76, 3) := by decide +kernel
theorem dX4_isPlace_8 : decode cX4_isPlace 8 = .ok (.iload_n 2, 1) := by decide +kernel
theorem dX4_isPlace_9 : decode cX4_isPlace 9 = .ok (.ifCond .lt 72, 3) := by decide +kernel
theorem dX4_isPlace_12 : decode cX4_isPlace 12 = .ok (.iload_n 2, 1) := by decide +kernel
theorem dX4_isPlace_13 : decode cX4_isPlace 13 = .ok (.bipush 6, 2) := by decide +kernel
theorem dX4_isPlace_15 : decode cX4_isPlace 15 = .ok (.if_icmp .ge 66, 3) := by decide +kernel
theorem dX4_isPlace_18 : decode cX4_isPlace 18 = .ok (.aload_n 0, 1) := by decide +kernel
theorem dX4_isPlace_19 : decode cX4_isPlace 19 = .ok (.iload_n 1, 1) := by decide +kernel
theorem dX4_isPlace_20 : decode cX4_isPlace 20 = .ok (.iload_n 2, 1) := by decide +kernel
theorem dX4_isPlace_21 : decode cX4_isPlace 21 = .ok (.invokevirtual 35, 3) := by decide +kernel
theorem dX4_isPlace_24 : decode cX4_isPlace 24 = .ok (.ifCond .eq 57, 3) := by decide +kernel
theorem dX4_isPlace_27 : decode cX4_isPlace 27 = .ok (.aload_n 0, 1) := by decide +kernel
theorem dX4_isPlace_28 : decode cX4_isPlace 28 = .ok (.iconst 0, 1) := by decide +kernel
theorem dX4_isPlace_29 : decode cX4_isPlace 29 = .ok (.iload_n 3, 1) := by decide +kernel
theorem dX4_isPlace_30 : decode cX4_isPlace 30 = .ok (.aload_n 0, 1) := by decide +kernel
theorem dX4_isPlace_31 : decode cX4_isPlace 31 = .ok (.iload_n 1, 1) := by decide +kernel
theorem dX4_isPlace_32 : decode cX4_isPlace 32 = .ok (.iload_n 2, 1) := by decide +kernel
theorem dX4_isPlace_33 : decode cX4_isPlace 33 = .ok (.iconst 0, 1) := by decide +kernel
theorem dX4_isPlace_34 : decode cX4_isPlace 34 = .ok (.invokevirtual 31, 3) := by decide +kernel
theorem dX4_isPlace_37 : decode cX4_isPlace 37 = .ok (.invokevirtual 50, 3) := by decide +kernel
theorem dX4_isPlace_40 : decode cX4_isPlace 40 = .ok (.ifCond .eq 41, 3) := by decide +kernel
theorem dX4_isPlace_43 : decode cX4_isPlace 43 = .ok (.aload_n 0, 1) := by decide +kernel
theorem dX4_isPlace_44 : decode cX4_isPlace 44 = .ok (.iconst 1, 1) := by decide +kernel
theorem dX4_isPlace_45 : decode cX4_isPlace 45 = .ok (.iload 4, 2) := by decide +kernel
theorem dX4_isPlace_47 : decode cX4_isPlace 47 = .ok (.aload_n 0, 1) := by decide +kernel
theorem dX4_isPlace_48 : decode cX4_isPlace 48 = .ok (.iload_n 1, 1) := by decide +kernel
theorem dX4_isPlace_49 : decode cX4_isPlace 49 = .ok (.iload_n 2, 1) := by decide +kernel
theorem dX4_isPlace_50 : decode cX4_isPlace 50 = .ok (.iconst 1, 1) := by decide +kernel
theorem dX4_isPlace_51 : decode cX4_isPlace 51 = .ok (.invokevirtual 31, 3) := by decide +kernel
theorem dX4_isPlace_54 : decode cX4_isPlace 54 = .ok (.invokevirtual 50, 3) := by decide +kernel
theorem dX4_isPlace_57 : decode cX4_isPlace 57 = .ok (.ifCond .eq 24, 3) := by decide +kernel
theorem dX4_isPlace_60 : decode cX4_isPlace 60 = .ok (.aload_n 0, 1) := by decide +kernel
theorem dX4_isPlace_61 : decode cX4_isPlace 61 = .ok (.iconst 2, 1) := by decide +kernel
theorem dX4_isPlace_62 : decode cX4_isPlace 62 = .ok (.iload 5, 2) := by decide +kernel
theorem dX4_isPlace_64 : decode cX4_isPlace 64 = .ok (.aload_n 0, 1) := by decide +kernel
theorem dX4_isPlace_65 : decode cX4_isPlace 65 = .ok (.iload_n 1, 1) := by decide +kernel
theorem dX4_isPlace_66 : decode cX4_isPlace 66 = .ok (.iload_n 2, 1) := by decide +kernel
theorem dX4_isPlace_67 : decode cX4_isPlace 67 = .ok (.iconst 2, 1) := by decide +kernel
theorem dX4_isPlace_68 : decode cX4_isPlace 68 = .ok (.invokevirtual 31, 3) := by decide +kernel
theorem dX4_isPlace_71 : decode cX4_isPlace 71 = .ok (.invokevirtual 50, 3) := by decide +kernel
theorem dX4_isPlace_74 : decode cX4_isPlace 74 = .ok (.ifCond .eq 7, 3) := by decide +kernel
theorem dX4_isPlace_77 : decode cX4_isPlace 77 = .ok (.iconst 1, 1) := by decide +kernel
theorem dX4_isPlace_78 : decode cX4_isPlace 78 = .ok (.goto 4, 3) := by decide +kernel
theorem dX4_isPlace_81 : decode cX4_isPlace 81 = .ok (.iconst 0, 1) := by decide +kernel
theorem dX4_isPlace_82 : decode cX4_isPlace 82 = .ok (.ireturn, 1) := by decide +kernel
theorem dX4_liesWithin_0 : decode cX4_liesWithin 0 = .ok (.iload_n 2, 1) := by decide +kernel
theorem dX4_liesWithin_1 : decode cX4_liesWithin 1 = .ok (.ifCond .lt 19, 3) := by decide +kernel
theorem dX4_liesWithin_4 : decode cX4_liesWithin 4 = .ok (.iload_n 2, 1) := by decide +kernel
theorem dX4_liesWithin_5 : decode cX4_liesWithin 5 = .ok (.aload_n 0, 1) := by decide +kernel
theorem dX4_liesWithin_6 : decode cX4_liesWithin 6 = .ok (.getfield 9, 3) := by decide +kernel
theorem dX4_liesWithin_9 : decode cX4_liesWithin 9 = .ok (.iload_n 1, 1) := by decide +kernel
theorem dX4_liesWithin_10 : decode cX4_liesWithin 10 = .ok (.iaload, 1) := by decide +kernel
theorem dX4_liesWithin_11 : decode cX4_liesWithin 11 = .ok (.iload_n 3, 1) := by decide +kernel
theorem dX4_liesWithin_12 : decode cX4_liesWithin 12 = .ok (.isub, 1) := by decide +kernel
theorem dX4_liesWithin_13 : decode cX4_liesWithin 13 = .ok (.if_icmp .gt 7, 3) := by decide +kernel
theorem dX4_liesWithin_16 : decode cX4_liesWithin 16 = .ok (.iconst 1, 1) := by decide +kernel
theorem dX4_liesWithin_17 : decode cX4_liesWithin 17 = .ok (.goto 4, 3) := by decide +kernel
theorem dX4_liesWithin_20 : decode cX4_liesWithin 20 = .ok (.iconst 0, 1) := by decide +kernel
theorem dX4_liesWithin_21 : decode cX4_liesWithin 21 = .ok (.ireturn, 1) := by decide +kernel
theorem dX4_hasRoomBeside_0 : decode cX4_hasRoomBeside 0 = .ok (.iload 4, 2) := by decide +kernel
theorem dX4_hasRoomBeside_2 : decode cX4_hasRoomBeside 2 = .ok (.aload_n 0, 1) := by decide +kernel
theorem dX4_hasRoomBeside_3 : decode cX4_hasRoomBeside 3 = .ok (.getfield 9, 3) := by decide +kernel
theorem dX4_hasRoomBeside_6 : decode cX4_hasRoomBeside 6 = .ok (.iconst 0, 1) := by decide +kernel
theorem dX4_hasRoomBeside_7 : decode cX4_hasRoomBeside 7 = .ok (.iaload, 1) := by decide +kernel
theorem dX4_hasRoomBeside_8 : decode cX4_hasRoomBeside 8 = .ok (.iload 4, 2) := by decide +kernel
theorem dX4_hasRoomBeside_10 : decode cX4_hasRoomBeside 10 = .ok (.isub, 1) := by decide +kernel
theorem dX4_hasRoomBeside_11 : decode cX4_hasRoomBeside 11 = .ok (.aload_n 0, 1) := by decide +kernel
theorem dX4_hasRoomBeside_12 : decode cX4_hasRoomBeside 12 = .ok (.iload_n 2, 1) := by decide +kernel
theorem dX4_hasRoomBeside_13 : decode cX4_hasRoomBeside 13 = .ok (.iload_n 3, 1) := by decide +kernel
theorem dX4_hasRoomBeside_14 : decode cX4_hasRoomBeside 14 = .ok (.iconst 0, 1) := by decide +kernel
theorem dX4_hasRoomBeside_15 : decode cX4_hasRoomBeside 15 = .ok (.invokevirtual 31, 3) := by decide +kernel
theorem dX4_hasRoomBeside_18 : decode cX4_hasRoomBeside 18 = .ok (.isub, 1) := by decide +kernel
theorem dX4_hasRoomBeside_19 : decode cX4_hasRoomBeside 19 = .ok (.invokestatic 53, 3) := by decide +kernel
theorem dX4_hasRoomBeside_22 : decode cX4_hasRoomBeside 22 = .ok (.istore 7, 2) := by decide +kernel
theorem dX4_hasRoomBeside_24 : decode cX4_hasRoomBeside 24 = .ok (.iload 5, 2) := by decide +kernel
theorem dX4_hasRoomBeside_26 : decode cX4_hasRoomBeside 26 = .ok (.aload_n 0, 1) := by decide +kernel
theorem dX4_hasRoomBeside_27 : decode cX4_hasRoomBeside 27 = .ok (.getfield 9, 3) := by decide +kernel
theorem dX4_hasRoomBeside_30 : decode cX4_hasRoomBeside 30 = .ok (.iconst 1, 1) := by decide +kernel
theorem dX4_hasRoomBeside_31 : decode cX4_hasRoomBeside 31 = .ok (.iaload, 1) := by decide +kernel
theorem dX4_hasRoomBeside_32 : decode cX4_hasRoomBeside 32 = .ok (.iload 5, 2) := by decide +kernel
theorem dX4_hasRoomBeside_34 : decode cX4_hasRoomBeside 34 = .ok (.isub, 1) := by decide +kernel
theorem dX4_hasRoomBeside_35 : decode cX4_hasRoomBeside 35 = .ok (.aload_n 0, 1) := by decide +kernel
theorem dX4_hasRoomBeside_36 : decode cX4_hasRoomBeside 36 = .ok (.iload_n 2, 1) := by decide +kernel
theorem dX4_hasRoomBeside_37 : decode cX4_hasRoomBeside 37 = .ok (.iload_n 3, 1) := by decide +kernel
theorem dX4_hasRoomBeside_38 : decode cX4_hasRoomBeside 38 = .ok (.iconst 1, 1) := by decide +kernel
theorem dX4_hasRoomBeside_39 : decode cX4_hasRoomBeside 39 = .ok (.invokevirtual 31, 3) := by decide +kernel
theorem dX4_hasRoomBeside_42 : decode cX4_hasRoomBeside 42 = .ok (.isub, 1) := by decide +kernel
theorem dX4_hasRoomBeside_43 : decode cX4_hasRoomBeside 43 = .ok (.invokestatic 53, 3) := by decide +kernel
theorem dX4_hasRoomBeside_46 : decode cX4_hasRoomBeside 46 = .ok (.istore 8, 2) := by decide +kernel
theorem dX4_hasRoomBeside_48 : decode cX4_hasRoomBeside 48 = .ok (.iload 6, 2) := by decide +kernel
theorem dX4_hasRoomBeside_50 : decode cX4_hasRoomBeside 50 = .ok (.aload_n 0, 1) := by decide +kernel
theorem dX4_hasRoomBeside_51 : decode cX4_hasRoomBeside 51 = .ok (.getfield 9, 3) := by decide +kernel
theorem dX4_hasRoomBeside_54 : decode cX4_hasRoomBeside 54 = .ok (.iconst 2, 1) := by decide +kernel
theorem dX4_hasRoomBeside_55 : decode cX4_hasRoomBeside 55 = .ok (.iaload, 1) := by decide +kernel
theorem dX4_hasRoomBeside_56 : decode cX4_hasRoomBeside 56 = .ok (.iload 6, 2) := by decide +kernel
theorem dX4_hasRoomBeside_58 : decode cX4_hasRoomBeside 58 = .ok (.isub, 1) := by decide +kernel
theorem dX4_hasRoomBeside_59 : decode cX4_hasRoomBeside 59 = .ok (.aload_n 0, 1) := by decide +kernel
theorem dX4_hasRoomBeside_60 : decode cX4_hasRoomBeside 60 = .ok (.iload_n 2, 1) := by decide +kernel
theorem dX4_hasRoomBeside_61 : decode cX4_hasRoomBeside 61 = .ok (.iload_n 3, 1) := by decide +kernel
theorem dX4_hasRoomBeside_62 : decode cX4_hasRoomBeside 62 = .ok (.iconst 2, 1) := by decide +kernel
theorem dX4_hasRoomBeside_63 : decode cX4_hasRoomBeside 63 = .ok (.invokevirtual 31, 3) := by decide +kernel
theorem dX4_hasRoomBeside_66 : decode cX4_hasRoomBeside 66 = .ok (.isub, 1) := by decide +kernel
theorem dX4_hasRoomBeside_67 : decode cX4_hasRoomBeside 67 = .ok (.invokestatic 53, 3) := by decide +kernel
theorem dX4_hasRoomBeside_70 : decode cX4_hasRoomBeside 70 = .ok (.istore 9, 2) := by decide +kernel
theorem dX4_hasRoomBeside_72 : decode cX4_hasRoomBeside 72 = .ok (.iconst 0, 1) := by decide +kernel
theorem dX4_hasRoomBeside_73 : decode cX4_hasRoomBeside 73 = .ok (.istore 10, 2) := by decide +kernel
theorem dX4_hasRoomBeside_75 : decode cX4_hasRoomBeside 75 = .ok (.iload 10, 2) := by decide +kernel
theorem dX4_hasRoomBeside_77 : decode cX4_hasRoomBeside 77 = .ok (.bipush 6, 2) := by decide +kernel
theorem dX4_hasRoomBeside_79 : decode cX4_hasRoomBeside 79 = .ok (.if_icmp .ge 60, 3) := by decide +kernel
theorem dX4_hasRoomBeside_82 : decode cX4_hasRoomBeside 82 = .ok (.aload_n 0, 1) := by decide +kernel
theorem dX4_hasRoomBeside_83 : decode cX4_hasRoomBeside 83 = .ok (.iload_n 1, 1) := by decide +kernel
theorem dX4_hasRoomBeside_84 : decode cX4_hasRoomBeside 84 = .ok (.iload 10, 2) := by decide +kernel
theorem dX4_hasRoomBeside_86 : decode cX4_hasRoomBeside 86 = .ok (.invokevirtual 59, 3) := by decide +kernel
theorem dX4_hasRoomBeside_89 : decode cX4_hasRoomBeside 89 = .ok (.ifCond .eq 44, 3) := by decide +kernel
theorem dX4_hasRoomBeside_92 : decode cX4_hasRoomBeside 92 = .ok (.aload_n 0, 1) := by decide +kernel
theorem dX4_hasRoomBeside_93 : decode cX4_hasRoomBeside 93 = .ok (.iload_n 1, 1) := by decide +kernel
theorem dX4_hasRoomBeside_94 : decode cX4_hasRoomBeside 94 = .ok (.iload 10, 2) := by decide +kernel
theorem dX4_hasRoomBeside_96 : decode cX4_hasRoomBeside 96 = .ok (.iconst 0, 1) := by decide +kernel
theorem dX4_hasRoomBeside_97 : decode cX4_hasRoomBeside 97 = .ok (.invokevirtual 31, 3) := by decide +kernel
theorem dX4_hasRoomBeside_100 : decode cX4_hasRoomBeside 100 = .ok (.iload 7, 2) := by decide +kernel
theorem dX4_hasRoomBeside_102 : decode cX4_hasRoomBeside 102 = .ok (.if_icmp .le 29, 3) := by decide +kernel
theorem dX4_hasRoomBeside_105 : decode cX4_hasRoomBeside 105 = .ok (.aload_n 0, 1) := by decide +kernel
theorem dX4_hasRoomBeside_106 : decode cX4_hasRoomBeside 106 = .ok (.iload_n 1, 1) := by decide +kernel
theorem dX4_hasRoomBeside_107 : decode cX4_hasRoomBeside 107 = .ok (.iload 10, 2) := by decide +kernel
theorem dX4_hasRoomBeside_109 : decode cX4_hasRoomBeside 109 = .ok (.iconst 1, 1) := by decide +kernel
theorem dX4_hasRoomBeside_110 : decode cX4_hasRoomBeside 110 = .ok (.invokevirtual 31, 3) := by decide +kernel
theorem dX4_hasRoomBeside_113 : decode cX4_hasRoomBeside 113 = .ok (.iload 8, 2) := by decide +kernel
theorem dX4_hasRoomBeside_115 : decode cX4_hasRoomBeside 115 = .ok (.if_icmp .le 16, 3) := by decide +kernel
theorem dX4_hasRoomBeside_118 : decode cX4_hasRoomBeside 118 = .ok (.aload_n 0, 1) := by decide +kernel
theorem dX4_hasRoomBeside_119 : decode cX4_hasRoomBeside 119 = .ok (.iload_n 1, 1) := by decide +kernel
theorem dX4_hasRoomBeside_120 : decode cX4_hasRoomBeside 120 = .ok (.iload 10, 2) := by decide +kernel
theorem dX4_hasRoomBeside_122 : decode cX4_hasRoomBeside 122 = .ok (.iconst 2, 1) := by decide +kernel
theorem dX4_hasRoomBeside_123 : decode cX4_hasRoomBeside 123 = .ok (.invokevirtual 31, 3) := by decide +kernel
theorem dX4_hasRoomBeside_126 : decode cX4_hasRoomBeside 126 = .ok (.iload 9, 2) := by decide +kernel
theorem dX4_hasRoomBeside_128 : decode cX4_hasRoomBeside 128 = .ok (.if_icmp .gt 5, 3) := by decide +kernel
theorem dX4_hasRoomBeside_131 : decode cX4_hasRoomBeside 131 = .ok (.iconst 1, 1) := by decide +kernel
theorem dX4_hasRoomBeside_132 : decode cX4_hasRoomBeside 132 = .ok (.ireturn, 1) := by decide +kernel
theorem dX4_hasRoomBeside_133 : decode cX4_hasRoomBeside 133 = .ok (.iinc 10 1, 3) := by decide +kernel
theorem dX4_hasRoomBeside_136 : decode cX4_hasRoomBeside 136 = .ok (.goto (-61), 3) := by decide +kernel
theorem dX4_hasRoomBeside_139 : decode cX4_hasRoomBeside 139 = .ok (.iconst 0, 1) := by decide +kernel
theorem dX4_hasRoomBeside_140 : decode cX4_hasRoomBeside 140 = .ok (.ireturn, 1) := by decide +kernel
end
section
/-! bits as whole numbers -/
theorem iI_and1 (a : Int) (ha : inR a) : iI a &&& iI 1 = iI (a % 2) := by
  apply Int32.toBitVec.inj
  rw [Int32.toBitVec_and, iI_bv, iI_bv, iI_bv]
  apply BitVec.eq_of_toNat_eq
  rw [BitVec.toNat_and]
  have h1 : (BitVec.ofInt 32 1).toNat = 2 ^ 1 - 1 := by decide
  rw [h1, Nat.and_two_pow_sub_one_eq_mod, BitVec.toNat_ofInt, BitVec.toNat_ofInt]
  omega
def zand (a b : Int) : Int := ((a.toNat &&& b.toNat : Nat) : Int)
def zor (a b : Int) : Int := ((a.toNat ||| b.toNat : Nat) : Int)
def zandn (a b : Int) : Int := ((andn a.toNat b.toNat : Nat) : Int)
theorem iI_zand {a b : Int} (ha : 0 ≤ a) (ha2 : a ≤ 2147483647) (hb : 0 ≤ b) (hb2 : b ≤ 2147483647) : iI a &&& iI b = iI (zand a b) := by
  obtain ⟨x, rfl⟩ := Int.eq_ofNat_of_zero_le ha
  obtain ⟨y, rfl⟩ := Int.eq_ofNat_of_zero_le hb
  exact iI_and x y (by omega) (by omega)
theorem iI_zor {a b : Int} (ha : 0 ≤ a) (ha2 : a ≤ 2147483647) (hb : 0 ≤ b) (hb2 : b ≤ 2147483647) : iI a ||| iI b = iI (zor a b) := by
  obtain ⟨x, rfl⟩ := Int.eq_ofNat_of_zero_le ha
  obtain ⟨y, rfl⟩ := Int.eq_ofNat_of_zero_le hb
  exact iI_or x y (by omega) (by omega)
theorem iI_zandn {a b : Int} (ha : 0 ≤ a) (ha2 : a ≤ 2147483647) (hb : 0 ≤ b) (hb2 : b ≤ 2147483647) : iI a &&& iI (-b - 1) = iI (zandn a b) := by
  obtain ⟨x, rfl⟩ := Int.eq_ofNat_of_zero_le ha
  obtain ⟨y, rfl⟩ := Int.eq_ofNat_of_zero_le hb
  exact iI_andn x y (by omega) (by omega)
section Mz
variable {E : jEnv} {G : jG} {cc : ByteArray} {nL fr lo pc : Nat} {lv : List (Nat × Value)} {st : List Value} {S : jMem} {own : String} {a x : Int}
theorem mzld (hG : mG G) (C : jX E G cc nL own fr lo) (hd : decode cc pc = .ok (.baload, 1)) (h0 : 0 ≤ a) (h1 : a < 3408) (kk : J E G (pc + 1) lv (.int (iI (S 11 a)) :: st) S) : J E G pc lv (.int (iI a) :: .ref (jad G 11) :: st) S := J_zld (n := 3408) C (by rw [hG.2]; decide) (by rw [hG.1]; rfl) (by decide) h0 h1 hd kk
theorem mzst (hG : mG G) (C : jX E G cc nL own fr lo) (hd : decode cc pc = .ok (.bastore, 1)) (h0 : 0 ≤ a) (h1 : a < 3408) (hx : x = 0 ∨ x = 1) (kk : J E G (pc + 1) lv st (up2 S 11 a x)) : J E G pc lv (.int (iI x) :: .int (iI a) :: .ref (jad G 11) :: st) S := J_zst (n := 3408) C (by rw [hG.2]; decide) (by rw [hG.1]; rfl) (by decide) h0 h1 hx hd kk
end Mz
/-! what is told of boxes: sides, turns, extents -/
theorem sd_in (x : Int) : 0 ≤ sd x ∧ sd x ≤ 2 := by
  unfold sd
  generalize x.toNat = n
  by_cases h : n < 18
  · have : ∀ k, k < 18 → 0 ≤ ([0, 1, 2, 0, 2, 1, 1, 0, 2, 1, 2, 0, 2, 0, 1, 2, 1, 0] : List Int).getD k 0 ∧ ([0, 1, 2, 0, 2, 1, 1, 0, 2, 1, 2, 0, 2, 0, 1, 2, 1, 0] : List Int).getD k 0 ≤ 2 := by decide
    exact this n h
  · have hn : ([0, 1, 2, 0, 2, 1, 1, 0, 2, 1, 2, 0, 2, 0, 1, 2, 1, 0] : List Int)[n]? = none := List.getElem?_eq_none (by simpa using h)
    rw [List.getD_eq_getElem?_getD, hn]
    decide
def pext (sid : Int → Int) (b t a : Int) : Int := sid (b * 3 + sd (t * 3 + a))
abbrev phas (tb : Int → Int) (b t : Int) : Prop := tb b / 2 ^ t.toNat % 2 = 1
/-- of the bin and the boxes: how many boxes, lengths, sides, turns, weights -/
def sOK (n : Int) (len sid tb wt : Int → Int) : Prop :=
  (0 ≤ n ∧ n ≤ 8) ∧ (∀ a, 0 ≤ a → a < 3 → 1 ≤ len a ∧ len a ≤ 20) ∧ (∀ i, 0 ≤ i → i < 24 → 0 ≤ sid i ∧ sid i ≤ 20) ∧ (∀ i, 0 ≤ i → i < n * 3 → 1 ≤ sid i) ∧ (∀ b, 0 ≤ b → b < 8 → 0 ≤ tb b ∧ tb b ≤ 63) ∧ (∀ b, 0 ≤ b → b < n → 1 ≤ tb b) ∧ (∀ b, 0 ≤ b → b < 8 → 0 ≤ wt b ∧ wt b ≤ 1000)
abbrev cOK (S : jMem) : Prop := sOK (S 1 4) (S 2) (S 3) (S 4) (S 5)
abbrev mOK (M : jMem) : Prop := sOK (M 0 1) (M 1) (M 2) (M 4) (M 3)
theorem pext_in {n : Int} {len sid tb wt : Int → Int} (h : sOK n len sid tb wt) {b t a : Int} (hb : 0 ≤ b) (hb2 : b < 8) : 0 ≤ pext sid b t a ∧ pext sid b t a ≤ 20 := by
  have := sd_in (t * 3 + a)
  exact h.2.2.1 _ (by omega) (by omega)
theorem pext_pos {n : Int} {len sid tb wt : Int → Int} (h : sOK n len sid tb wt) {b t a : Int} (hb : 0 ≤ b) (hb2 : b < n) : 1 ≤ pext sid b t a := by
  have := sd_in (t * 3 + a)
  exact h.2.2.2.1 _ (by omega) (by omega)
/-! answers that are yes or no -/
noncomputable def bb (p : Prop) : Int := @ite Int p (Classical.propDecidable p) 1 0
theorem bb_t {p : Prop} (h : p) : bb p = 1 := if_pos h
theorem bb_f {p : Prop} (h : ¬ p) : bb p = 0 := if_neg h
theorem bb_in (p : Prop) : 0 ≤ bb p ∧ bb p ≤ 1 := by
  unfold bb; by_cases h : p
  · rw [if_pos h]; omega
  · rw [if_neg h]; omega
theorem bb_or (p : Prop) : bb p = 0 ∨ bb p = 1 := by
  unfold bb; by_cases h : p
  · rw [if_pos h]; exact Or.inr rfl
  · rw [if_neg h]; exact Or.inl rfl
theorem bb_0 {p : Prop} : bb p = 0 ↔ ¬ p := by
  unfold bb; by_cases h : p
  · rw [if_pos h]; simp [h]
  · rw [if_neg h]; simp [h]
theorem bb_1 {p : Prop} : bb p = 1 ↔ p := by
  unfold bb; by_cases h : p
  · rw [if_pos h]; simp [h]
  · rw [if_neg h]; simp [h]
theorem bb_c {p q : Prop} (h : p ↔ q) : bb p = bb q := by
  unfold bb; by_cases hp : p
  · rw [if_pos hp, if_pos (h.mp hp)]
  · rw [if_neg hp, if_neg (fun x => hp (h.mpr x))]
section JB
variable {E : jEnv} {G : jG} {cc : ByteArray} {nL : Nat} {own : String} {fr lo : Nat} {pc : Nat} {lv : List (Nat × Value)} {st : List Value} {S : jMem}
theorem J_if_eq_b (C : jX E G cc nL own fr lo) {p : Prop} {off : Int} (tgt : Nat) (hd : decode cc pc = .ok (.ifCond .eq off, 3)) (ht : (pc : Int) + off = (tgt : Int)) (kt : ¬ p → J E G tgt lv st S) (kf : p → J E G (pc + 3) lv st S) : J E G pc lv (.int (iI (bb p)) :: st) S := J_if_eq C tgt hd ht (by have := bb_in p; omega) (fun h => kt (bb_0.mp h)) (fun h => kf (Classical.not_not.mp (fun x => h (bb_0.mpr x))))
theorem J_if_ne_b (C : jX E G cc nL own fr lo) {p : Prop} {off : Int} (tgt : Nat) (hd : decode cc pc = .ok (.ifCond .ne off, 3)) (ht : (pc : Int) + off = (tgt : Int)) (kt : p → J E G tgt lv st S) (kf : ¬ p → J E G (pc + 3) lv st S) : J E G pc lv (.int (iI (bb p)) :: st) S := J_if_ne C tgt hd ht (by have := bb_in p; omega) (fun h => kt (Classical.not_not.mp (fun x => h (bb_0.mpr x)))) (fun h => kf (bb_0.mp h))
end JB
theorem zdiv_in {x : Int} (h : 0 ≤ x) (k : Nat) : 0 ≤ x / 2 ^ k ∧ x / 2 ^ k ≤ x := ⟨Int.ediv_nonneg h (Int.le_of_lt (Int.pow_pos (by decide))), Int.ediv_le_self _ h⟩
abbrev psame (sid : Int → Int) (b t u : Int) : Prop := pext sid b t 0 = pext sid b u 0 ∧ pext sid b t 1 = pext sid b u 1 ∧ pext sid b t 2 = pext sid b u 2
abbrev pshort (len sid : Int → Int) (b t : Int) : Prop := pext sid b t 0 ≤ len 0 ∧ pext sid b t 1 ≤ len 1 ∧ pext sid b t 2 ≤ len 2
/-- a turn of a box that it has, that fits, and that has none like it ahead -/
def pcounts (len sid tb : Int → Int) (b t : Int) : Prop := phas tb b t ∧ pshort len sid b t ∧ ∀ u, 0 ≤ u → u < t → ¬ (phas tb b u ∧ psame sid b u t)
/-- a place of a box -/
abbrev pplace (n : Int) (len sid tb : Int → Int) (b t x y z : Int) : Prop := (0 ≤ b ∧ b < n) ∧ (0 ≤ t ∧ t < 6) ∧ phas tb b t ∧ (0 ≤ x ∧ x ≤ len 0 - pext sid b t 0) ∧ (0 ≤ y ∧ y ≤ len 1 - pext sid b t 1) ∧ (0 ≤ z ∧ z ≤ len 2 - pext sid b t 2)
/-- a box has a place that does not overlap another one's: a turn that counts, and room before or behind on an axis -/
def proom (len sid tb : Int → Int) (o b t x y z : Int) : Prop := ∃ u, (0 ≤ u ∧ u < 6) ∧ pcounts len sid tb o u ∧ (pext sid o u 0 ≤ max x (len 0 - x - pext sid b t 0) ∨ pext sid o u 1 ≤ max y (len 1 - y - pext sid b t 1) ∨ pext sid o u 2 ≤ max z (len 2 - z - pext sid b t 2))
/-- a contract of a method of the JDK's -/
theorem jM.ofF {G : jG} {y : MethodName} {cc : ByteArray} {nL : Nat} {ret : Option FieldType} {fr lo : Nat} {av : List Value} {S : jMem} {post : Option Value → jMem → Prop} (hy : plainFor y = true) (hlen : (lg_sl av).length ≤ nL)
    (body : ∀ E : jEnv, jX E G cc nL y.cls fr lo → jR E G ret post → J E G 0 (lv_args 0 av) [] S) : jM G y cc nL ret fr lo av S post := by
  unfold jM Met
  refine MetFree.of_bodySF (code := cc) (maxLocals := nL) (ret := ret) hy ?_ ?_
  · intro args s m h hn
    obtain ⟨meth, c, h1, h2, h3, h4, h5, h6, -, -⟩ := Cond.code_spec hn (atoms_spec (ws := .code y cc nL ret :: lw_good) h _ List.mem_cons_self)
    exact ⟨meth, c, h1, h2, h3, h4, h5, h6⟩
  · intro p e s m args below meth c s₁ B hml hv _
    obtain ⟨rfl, hP, hK, hT, hI⟩ := hv
    have hts := atoms_spec (ws := .code y cc nL ret :: lw_good) B.pre
    have hl := lv_entry av (n := nL) hlen
    have hh0 : s₁.heap = s.heap := by rw [B.state]; rfl
    have key := body (p, e, ({ frames := fr, cells := 0, slots := 0, locals := lo } : Room), s, m, av.toArray, below, meth, c, 0, 0, MQ below (jQ G post) av.toArray s 0 0 (jA G)) ⟨B.exec, B.bytes, hml, findClass_of_methodNamed B.named, fun w hw => hts w (List.mem_cons_of_mem _ hw), hK, hT, hI, Nat.le_refl _, Nat.le_refl _, Nat.zero_le _, Nat.zero_le _⟩ ⟨rfl, B.returns, B.notSynchronized⟩ s.heap [] _ (by show lv_has _ c.maxLocals _; rw [hml]; exact hl) hP va_S.rf
    rw [lg_entry_eq]
    obtain ⟨t, a1, o, b1, b2, b3⟩ := key s₁ hh0 (Stand.of_body B)
    exact ⟨t, o, a1, b1, b2, ⟨b3.1, b3.2⟩⟩
end
section
theorem c_max {G : jG} (hG : cG G) (S : jMem) (a b : Int) (ha : inR a) (hb : inR b) : jM G yJ9_max_7cf53 cJ9_max_7cf53 2 (some .int) 0 0 [.int (iI (a)), .int (iI (b))] S (jPi (fun v S' => max a b = v ∧ S = S')) := by
  refine jM.ofF (by decide +kernel) (Nat.le_of_ble_eq_true rfl) (fun E C R => ?_)
  show J E G 0 [(0, .int (iI (a))), (1, .int (iI (b)))] [] _
  refine J_iload_n C 0 dJ9_max_7cf53_0 rfl ?_
  refine J_iload_n C 1 dJ9_max_7cf53_1 rfl ?_
  refine J_icmp_lt C 9 dJ9_max_7cf53_2 (by decide) (by omega) (by omega) (fun h1 => ?_) (fun h1 => ?_)
  · refine J_iload_n C 1 dJ9_max_7cf53_9 rfl ?_
    exact J_iret R C dJ9_max_7cf53_10 (jPi.mk ⟨by omega, rfl⟩)
  · refine J_iload_n C 0 dJ9_max_7cf53_5 rfl ?_
    refine J_goto C 10 dJ9_max_7cf53_6 (by decide) ?_
    exact J_iret R C dJ9_max_7cf53_10 (jPi.mk ⟨by omega, rfl⟩)
theorem c_min {G : jG} (hG : cG G) (S : jMem) (a b : Int) (ha : inR a) (hb : inR b) : jM G yJ9_min_7cf53 cJ9_min_7cf53 2 (some .int) 0 0 [.int (iI (a)), .int (iI (b))] S (jPi (fun v S' => min a b = v ∧ S = S')) := by
  refine jM.ofF (by decide +kernel) (Nat.le_of_ble_eq_true rfl) (fun E C R => ?_)
  show J E G 0 [(0, .int (iI (a))), (1, .int (iI (b)))] [] _
  refine J_iload_n C 0 dJ9_min_7cf53_0 rfl ?_
  refine J_iload_n C 1 dJ9_min_7cf53_1 rfl ?_
  refine J_icmp_gt C 9 dJ9_min_7cf53_2 (by decide) (by omega) (by omega) (fun h1 => ?_) (fun h1 => ?_)
  · refine J_iload_n C 1 dJ9_min_7cf53_9 rfl ?_
    exact J_iret R C dJ9_min_7cf53_10 (jPi.mk ⟨by omega, rfl⟩)
  · refine J_iload_n C 0 dJ9_min_7cf53_5 rfl ?_
    refine J_goto C 10 dJ9_min_7cf53_6 (by decide) ?_
    exact J_iret R C dJ9_min_7cf53_10 (jPi.mk ⟨by omega, rfl⟩)
theorem c_isBox {G : jG} (hG : cG G) (S : jMem) (b : Int) (hn : 0 ≤ S 1 4 ∧ S 1 4 ≤ 8) (hb : inR b) : jM G yX4_isBox cX4_isBox 2 (some .boolean) 0 0 [.ref (jad G 1), .int (iI (b))] S (jPi (fun v S' => bb (0 ≤ b ∧ b < S 1 4) = v ∧ S = S')) := by
  refine jM.of (by decide) (Nat.le_of_ble_eq_true rfl) (fun E C R => ?_)
  show J E G 0 [(0, .ref (jad G 1)), (1, .int (iI (b)))] [] _
  refine J_iload_n C 1 dX4_isBox_0 rfl ?_
  refine J_if_lt C 16 dX4_isBox_1 (by decide) (by omega) (fun h1 => ?_) (fun h1 => ?_)
  · refine J_iconst C dX4_isBox_16 ?_
    exact J_zret R C dX4_isBox_17 (by first | exact Or.inl rfl | exact Or.inr rfl | omega) (jPi.mk ⟨by first | exact bb_t (by omega) | exact bb_f (by omega), rfl⟩)
  · refine J_iload_n C 1 dX4_isBox_4 rfl ?_
    refine J_aload_n C 0 dX4_isBox_5 rfl ?_
    refine g_X4_24 hG C dX4_isBox_6 ?_
    refine J_icmp_ge C 16 dX4_isBox_9 (by decide) (by omega) (by omega) (fun h2 => ?_) (fun h2 => ?_)
    · refine J_iconst C dX4_isBox_16 ?_
      exact J_zret R C dX4_isBox_17 (by first | exact Or.inl rfl | exact Or.inr rfl | omega) (jPi.mk ⟨by first | exact bb_t (by omega) | exact bb_f (by omega), rfl⟩)
    · refine J_iconst C dX4_isBox_12 ?_
      refine J_goto C 17 dX4_isBox_13 (by decide) ?_
      exact J_zret R C dX4_isBox_17 (by first | exact Or.inl rfl | exact Or.inr rfl | omega) (jPi.mk ⟨by first | exact bb_t (by omega) | exact bb_f (by omega), rfl⟩)
theorem c_allBoxes {G : jG} (hG : cG G) (S : jMem) (hn : 0 ≤ S 1 4 ∧ S 1 4 ≤ 8) : jM G yX4_allBoxes cX4_allBoxes 1 (some .int) 0 0 [.ref (jad G 1)] S (jPi (fun v S' => 1 * 2 ^ (S 1 4).toNat - 1 = v ∧ S = S')) := by
  refine jM.of (by decide) (Nat.le_of_ble_eq_true rfl) (fun E C R => ?_)
  show J E G 0 [(0, .ref (jad G 1))] [] _
  refine J_iconst C dX4_allBoxes_0 ?_
  refine J_aload_n C 0 dX4_allBoxes_1 rfl ?_
  refine g_X4_24 hG C dX4_allBoxes_2 ?_
  refine J_ishl C dX4_allBoxes_5 (by omega) (by omega) ?_
  refine J_iconst C dX4_allBoxes_6 ?_
  refine J_isub C dX4_allBoxes_7 ?_
  exact J_iret R C dX4_allBoxes_8 (jPi.mk ⟨by rfl, rfl⟩)
theorem c_extent {G : jG} (hG : cG G) (S : jMem) (b t a : Int) (hb : 0 ≤ b ∧ b < 8) (ht : 0 ≤ t ∧ t < 6) (ha : 0 ≤ a ∧ a < 3) : jM G yX4_extent cX4_extent 4 (some .int) 0 0 [.ref (jad G 1), .int (iI (b)), .int (iI (t)), .int (iI (a))] S (jPi (fun v S' => pext (S 3) b t a = v ∧ S = S')) := by
  refine jM.of (by decide) (Nat.le_of_ble_eq_true rfl) (fun E C R => ?_)
  show J E G 0 [(0, .ref (jad G 1)), (1, .int (iI (b))), (2, .int (iI (t))), (3, .int (iI (a)))] [] _
  have hs := sd_in (t * 3 + a)
  refine J_aload_n C 0 dX4_extent_0 rfl ?_
  refine g_X4_15 hG C dX4_extent_1 ?_
  refine J_iload_n C 1 dX4_extent_4 rfl ?_
  refine J_iconst C dX4_extent_5 ?_
  refine J_imul C dX4_extent_6 ?_
  refine J_gets C kf_X4_28 dX4_extent_7 ?_
  refine J_iload_n C 2 dX4_extent_10 rfl ?_
  refine J_iconst C dX4_extent_11 ?_
  refine J_imul C dX4_extent_12 ?_
  refine J_iload_n C 3 dX4_extent_13 rfl ?_
  refine J_iadd C dX4_extent_14 ?_
  refine J_tld C (by omega) (by omega) dX4_extent_15 ?_
  refine J_iadd C dX4_extent_16 ?_
  refine cald hG C 3 24 (by decide) dX4_extent_17 (by omega) (by omega) ?_
  exact J_iret R C dX4_extent_18 (jPi.mk ⟨by rfl, rfl⟩)
theorem c_volume {G : jG} (hG : cG G) (S : jMem) (b : Int) (hb : 0 ≤ b ∧ b < 8) : jM G yX4_volume cX4_volume 2 (some .int) 0 0 [.ref (jad G 1), .int (iI (b))] S (jPi (fun v S' => S 3 (b * 3) * S 3 (b * 3 + 1) * S 3 (b * 3 + 2) = v ∧ S = S')) := by
  refine jM.of (by decide) (Nat.le_of_ble_eq_true rfl) (fun E C R => ?_)
  show J E G 0 [(0, .ref (jad G 1)), (1, .int (iI (b)))] [] _
  refine J_aload_n C 0 dX4_volume_0 rfl ?_
  refine g_X4_15 hG C dX4_volume_1 ?_
  refine J_iload_n C 1 dX4_volume_4 rfl ?_
  refine J_iconst C dX4_volume_5 ?_
  refine J_imul C dX4_volume_6 ?_
  refine cald hG C 3 24 (by decide) dX4_volume_7 (by omega) (by omega) ?_
  refine J_aload_n C 0 dX4_volume_8 rfl ?_
  refine g_X4_15 hG C dX4_volume_9 ?_
  refine J_iload_n C 1 dX4_volume_12 rfl ?_
  refine J_iconst C dX4_volume_13 ?_
  refine J_imul C dX4_volume_14 ?_
  refine J_iconst C dX4_volume_15 ?_
  refine J_iadd C dX4_volume_16 ?_
  refine cald hG C 3 24 (by decide) dX4_volume_17 (by omega) (by omega) ?_
  refine J_imul C dX4_volume_18 ?_
  refine J_aload_n C 0 dX4_volume_19 rfl ?_
  refine g_X4_15 hG C dX4_volume_20 ?_
  refine J_iload_n C 1 dX4_volume_23 rfl ?_
  refine J_iconst C dX4_volume_24 ?_
  refine J_imul C dX4_volume_25 ?_
  refine J_iconst C dX4_volume_26 ?_
  refine J_iadd C dX4_volume_27 ?_
  refine cald hG C 3 24 (by decide) dX4_volume_28 (by omega) (by omega) ?_
  refine J_imul C dX4_volume_29 ?_
  exact J_iret R C dX4_volume_30 (jPi.mk ⟨by rfl, rfl⟩)
theorem c_hasTurn {G : jG} (hG : cG G) (S : jMem) (b t : Int) (hk : cOK S) (hb : 0 ≤ b ∧ b < 8) (ht : 0 ≤ t ∧ t < 6) : jM G yX4_hasTurn cX4_hasTurn 3 (some .boolean) 0 0 [.ref (jad G 1), .int (iI (b)), .int (iI (t))] S (jPi (fun v S' => bb (phas (S 4) b t) = v ∧ S = S')) := by
  refine jM.of (by decide) (Nat.le_of_ble_eq_true rfl) (fun E C R => ?_)
  show J E G 0 [(0, .ref (jad G 1)), (1, .int (iI (b))), (2, .int (iI (t)))] [] _
  have h4 := hk.2.2.2.2.1 b (by omega) (by omega)
  have h5 := zdiv_in h4.1 t.toNat
  refine J_aload_n C 0 dX4_hasTurn_0 rfl ?_
  refine g_X4_18 hG C dX4_hasTurn_1 ?_
  refine J_iload_n C 1 dX4_hasTurn_4 rfl ?_
  refine cald hG C 4 8 (by decide) dX4_hasTurn_5 (by omega) (by omega) ?_
  refine J_iload_n C 2 dX4_hasTurn_6 rfl ?_
  refine J_ishr C dX4_hasTurn_7 (by omega) (by omega) (by omega) ?_
  refine J_iconst C dX4_hasTurn_8 ?_
  refine J_iand C (((S 4 (b)) / 2 ^ (t).toNat) % 2) dX4_hasTurn_9 (iI_and1 _ (by omega)) ?_
  refine J_iconst C dX4_hasTurn_10 ?_
  refine J_icmp_ne C 18 dX4_hasTurn_11 (by decide) (by omega) (by omega) (fun h1 => ?_) (fun h1 => ?_)
  · refine J_iconst C dX4_hasTurn_18 ?_
    exact J_zret R C dX4_hasTurn_19 (by first | exact Or.inl rfl | exact Or.inr rfl | omega) (jPi.mk ⟨by first | exact bb_t (by assumption) | exact bb_f (by assumption), rfl⟩)
  · refine J_iconst C dX4_hasTurn_14 ?_
    refine J_goto C 19 dX4_hasTurn_15 (by decide) ?_
    exact J_zret R C dX4_hasTurn_19 (by first | exact Or.inl rfl | exact Or.inr rfl | omega) (jPi.mk ⟨by first | exact bb_t (by assumption) | exact bb_f (by assumption), rfl⟩)
theorem c_sameExtents {G : jG} (hG : cG G) (S : jMem) (b t u : Int) (hk : cOK S) (hb : 0 ≤ b ∧ b < 8) (ht : 0 ≤ t ∧ t < 6) (hu : 0 ≤ u ∧ u < 6) : jM G yX4_sameExtents cX4_sameExtents 4 (some .boolean) 1 23 [.ref (jad G 1), .int (iI (b)), .int (iI (t)), .int (iI (u))] S (jPi (fun v S' => bb (psame (S 3) b t u) = v ∧ S = S')) := by
  refine jM.of (by decide) (Nat.le_of_ble_eq_true rfl) (fun E C R => ?_)
  show J E G 0 [(0, .ref (jad G 1)), (1, .int (iI (b))), (2, .int (iI (t))), (3, .int (iI (u)))] [] _
  refine J_aload_n C 0 dX4_sameExtents_0 rfl ?_
  refine J_iload_n C 1 dX4_sameExtents_1 rfl ?_
  refine J_iload_n C 2 dX4_sameExtents_2 rfl ?_
  refine J_iconst C dX4_sameExtents_3 ?_
  refine J_callV (k := 1) (rest := []) C (c_extent hG S (b) (t) (0) (by omega) (by omega) (by omega)) kc_X4_extent kl_X4_31 (by rw [hG.2]; decide) (by rw [hG.1]; rfl) rfl dX4_sameExtents_4 rfl rfl (by decide) (Nat.le_of_ble_eq_true rfl) (J_ki (fun v1 S1 h1 => ?_))
  obtain ⟨rfl, rfl⟩ := h1
  have q1 := pext_in hk (b := b) (t := t) (a := 0) (by omega) (by omega)
  refine J_aload_n C 0 dX4_sameExtents_7 rfl ?_
  refine J_iload_n C 1 dX4_sameExtents_8 rfl ?_
  refine J_iload_n C 3 dX4_sameExtents_9 rfl ?_
  refine J_iconst C dX4_sameExtents_10 ?_
  refine J_callV (k := 1) (rest := [.int (iI (pext (S 3) (b) (t) (0)))]) C (c_extent hG S (b) (u) (0) (by omega) (by omega) (by omega)) kc_X4_extent kl_X4_31 (by rw [hG.2]; decide) (by rw [hG.1]; rfl) rfl dX4_sameExtents_11 rfl rfl (by decide) (Nat.le_of_ble_eq_true rfl) (J_ki (fun v2 S2 h2 => ?_))
  obtain ⟨rfl, rfl⟩ := h2
  have q2 := pext_in hk (b := b) (t := u) (a := 0) (by omega) (by omega)
  refine J_icmp_ne C 55 dX4_sameExtents_14 (by decide) (by omega) (by omega) (fun h3 => ?_) (fun h3 => ?_)
  · refine J_iconst C dX4_sameExtents_55 ?_
    exact J_zret R C dX4_sameExtents_56 (by first | exact Or.inl rfl | exact Or.inr rfl | omega) (jPi.mk ⟨by first | exact bb_t (by omega) | exact bb_f (by omega), rfl⟩)
  · refine J_aload_n C 0 dX4_sameExtents_17 rfl ?_
    refine J_iload_n C 1 dX4_sameExtents_18 rfl ?_
    refine J_iload_n C 2 dX4_sameExtents_19 rfl ?_
    refine J_iconst C dX4_sameExtents_20 ?_
    refine J_callV (k := 1) (rest := []) C (c_extent hG S (b) (t) (1) (by omega) (by omega) (by omega)) kc_X4_extent kl_X4_31 (by rw [hG.2]; decide) (by rw [hG.1]; rfl) rfl dX4_sameExtents_21 rfl rfl (by decide) (Nat.le_of_ble_eq_true rfl) (J_ki (fun v4 S4 h4 => ?_))
    obtain ⟨rfl, rfl⟩ := h4
    have q3 := pext_in hk (b := b) (t := t) (a := 1) (by omega) (by omega)
    refine J_aload_n C 0 dX4_sameExtents_24 rfl ?_
    refine J_iload_n C 1 dX4_sameExtents_25 rfl ?_
    refine J_iload_n C 3 dX4_sameExtents_26 rfl ?_
    refine J_iconst C dX4_sameExtents_27 ?_
    refine J_callV (k := 1) (rest := [.int (iI (pext (S 3) (b) (t) (1)))]) C (c_extent hG S (b) (u) (1) (by omega) (by omega) (by omega)) kc_X4_extent kl_X4_31 (by rw [hG.2]; decide) (by rw [hG.1]; rfl) rfl dX4_sameExtents_28 rfl rfl (by decide) (Nat.le_of_ble_eq_true rfl) (J_ki (fun v5 S5 h5 => ?_))
    obtain ⟨rfl, rfl⟩ := h5
    have q4 := pext_in hk (b := b) (t := u) (a := 1) (by omega) (by omega)
    refine J_icmp_ne C 55 dX4_sameExtents_31 (by decide) (by omega) (by omega) (fun h6 => ?_) (fun h6 => ?_)
    · refine J_iconst C dX4_sameExtents_55 ?_
      exact J_zret R C dX4_sameExtents_56 (by first | exact Or.inl rfl | exact Or.inr rfl | omega) (jPi.mk ⟨by first | exact bb_t (by omega) | exact bb_f (by omega), rfl⟩)
    · refine J_aload_n C 0 dX4_sameExtents_34 rfl ?_
      refine J_iload_n C 1 dX4_sameExtents_35 rfl ?_
      refine J_iload_n C 2 dX4_sameExtents_36 rfl ?_
      refine J_iconst C dX4_sameExtents_37 ?_
      refine J_callV (k := 1) (rest := []) C (c_extent hG S (b) (t) (2) (by omega) (by omega) (by omega)) kc_X4_extent kl_X4_31 (by rw [hG.2]; decide) (by rw [hG.1]; rfl) rfl dX4_sameExtents_38 rfl rfl (by decide) (Nat.le_of_ble_eq_true rfl) (J_ki (fun v7 S7 h7 => ?_))
      obtain ⟨rfl, rfl⟩ := h7
      have q5 := pext_in hk (b := b) (t := t) (a := 2) (by omega) (by omega)
      refine J_aload_n C 0 dX4_sameExtents_41 rfl ?_
      refine J_iload_n C 1 dX4_sameExtents_42 rfl ?_
      refine J_iload_n C 3 dX4_sameExtents_43 rfl ?_
      refine J_iconst C dX4_sameExtents_44 ?_
      refine J_callV (k := 1) (rest := [.int (iI (pext (S 3) (b) (t) (2)))]) C (c_extent hG S (b) (u) (2) (by omega) (by omega) (by omega)) kc_X4_extent kl_X4_31 (by rw [hG.2]; decide) (by rw [hG.1]; rfl) rfl dX4_sameExtents_45 rfl rfl (by decide) (Nat.le_of_ble_eq_true rfl) (J_ki (fun v8 S8 h8 => ?_))
      obtain ⟨rfl, rfl⟩ := h8
      have q6 := pext_in hk (b := b) (t := u) (a := 2) (by omega) (by omega)
      refine J_icmp_ne C 55 dX4_sameExtents_48 (by decide) (by omega) (by omega) (fun h9 => ?_) (fun h9 => ?_)
      · refine J_iconst C dX4_sameExtents_55 ?_
        exact J_zret R C dX4_sameExtents_56 (by first | exact Or.inl rfl | exact Or.inr rfl | omega) (jPi.mk ⟨by first | exact bb_t (by omega) | exact bb_f (by omega), rfl⟩)
      · refine J_iconst C dX4_sameExtents_51 ?_
        refine J_goto C 56 dX4_sameExtents_52 (by decide) ?_
        exact J_zret R C dX4_sameExtents_56 (by first | exact Or.inl rfl | exact Or.inr rfl | omega) (jPi.mk ⟨by first | exact bb_t (by omega) | exact bb_f (by omega), rfl⟩)
theorem c_isShort {G : jG} (hG : cG G) (S : jMem) (b t : Int) (hk : cOK S) (hb : 0 ≤ b ∧ b < 8) (ht : 0 ≤ t ∧ t < 6) : jM G yX4_isShort cX4_isShort 3 (some .boolean) 1 23 [.ref (jad G 1), .int (iI (b)), .int (iI (t))] S (jPi (fun v S' => bb (pshort (S 2) (S 3) b t) = v ∧ S = S')) := by
  refine jM.of (by decide) (Nat.le_of_ble_eq_true rfl) (fun E C R => ?_)
  show J E G 0 [(0, .ref (jad G 1)), (1, .int (iI (b))), (2, .int (iI (t)))] [] _
  have l0 := hk.2.1 0 (by omega) (by omega)
  have l1 := hk.2.1 1 (by omega) (by omega)
  have l2 := hk.2.1 2 (by omega) (by omega)
  refine J_aload_n C 0 dX4_isShort_0 rfl ?_
  refine J_iload_n C 1 dX4_isShort_1 rfl ?_
  refine J_iload_n C 2 dX4_isShort_2 rfl ?_
  refine J_iconst C dX4_isShort_3 ?_
  refine J_callV (k := 1) (rest := []) C (c_extent hG S (b) (t) (0) (by omega) (by omega) (by omega)) kc_X4_extent kl_X4_31 (by rw [hG.2]; decide) (by rw [hG.1]; rfl) rfl dX4_isShort_4 rfl rfl (by decide) (Nat.le_of_ble_eq_true rfl) (J_ki (fun v1 S1 h1 => ?_))
  obtain ⟨rfl, rfl⟩ := h1
  have q7 := pext_in hk (b := b) (t := t) (a := 0) (by omega) (by omega)
  refine J_aload_n C 0 dX4_isShort_7 rfl ?_
  refine g_X4_9 hG C dX4_isShort_8 ?_
  refine J_iconst C dX4_isShort_11 ?_
  refine cald hG C 2 3 (by decide) dX4_isShort_12 (by omega) (by omega) ?_
  refine J_icmp_gt C 52 dX4_isShort_13 (by decide) (by omega) (by omega) (fun h2 => ?_) (fun h2 => ?_)
  · refine J_iconst C dX4_isShort_52 ?_
    exact J_zret R C dX4_isShort_53 (by first | exact Or.inl rfl | exact Or.inr rfl | omega) (jPi.mk ⟨by first | exact bb_t (by omega) | exact bb_f (by omega), rfl⟩)
  · refine J_aload_n C 0 dX4_isShort_16 rfl ?_
    refine J_iload_n C 1 dX4_isShort_17 rfl ?_
    refine J_iload_n C 2 dX4_isShort_18 rfl ?_
    refine J_iconst C dX4_isShort_19 ?_
    refine J_callV (k := 1) (rest := []) C (c_extent hG S (b) (t) (1) (by omega) (by omega) (by omega)) kc_X4_extent kl_X4_31 (by rw [hG.2]; decide) (by rw [hG.1]; rfl) rfl dX4_isShort_20 rfl rfl (by decide) (Nat.le_of_ble_eq_true rfl) (J_ki (fun v3 S3 h3 => ?_))
    obtain ⟨rfl, rfl⟩ := h3
    have q8 := pext_in hk (b := b) (t := t) (a := 1) (by omega) (by omega)
    refine J_aload_n C 0 dX4_isShort_23 rfl ?_
    refine g_X4_9 hG C dX4_isShort_24 ?_
    refine J_iconst C dX4_isShort_27 ?_
    refine cald hG C 2 3 (by decide) dX4_isShort_28 (by omega) (by omega) ?_
    refine J_icmp_gt C 52 dX4_isShort_29 (by decide) (by omega) (by omega) (fun h4 => ?_) (fun h4 => ?_)
    · refine J_iconst C dX4_isShort_52 ?_
      exact J_zret R C dX4_isShort_53 (by first | exact Or.inl rfl | exact Or.inr rfl | omega) (jPi.mk ⟨by first | exact bb_t (by omega) | exact bb_f (by omega), rfl⟩)
    · refine J_aload_n C 0 dX4_isShort_32 rfl ?_
      refine J_iload_n C 1 dX4_isShort_33 rfl ?_
      refine J_iload_n C 2 dX4_isShort_34 rfl ?_
      refine J_iconst C dX4_isShort_35 ?_
      refine J_callV (k := 1) (rest := []) C (c_extent hG S (b) (t) (2) (by omega) (by omega) (by omega)) kc_X4_extent kl_X4_31 (by rw [hG.2]; decide) (by rw [hG.1]; rfl) rfl dX4_isShort_36 rfl rfl (by decide) (Nat.le_of_ble_eq_true rfl) (J_ki (fun v5 S5 h5 => ?_))
      obtain ⟨rfl, rfl⟩ := h5
      have q9 := pext_in hk (b := b) (t := t) (a := 2) (by omega) (by omega)
      refine J_aload_n C 0 dX4_isShort_39 rfl ?_
      refine g_X4_9 hG C dX4_isShort_40 ?_
      refine J_iconst C dX4_isShort_43 ?_
      refine cald hG C 2 3 (by decide) dX4_isShort_44 (by omega) (by omega) ?_
      refine J_icmp_gt C 52 dX4_isShort_45 (by decide) (by omega) (by omega) (fun h6 => ?_) (fun h6 => ?_)
      · refine J_iconst C dX4_isShort_52 ?_
        exact J_zret R C dX4_isShort_53 (by first | exact Or.inl rfl | exact Or.inr rfl | omega) (jPi.mk ⟨by first | exact bb_t (by omega) | exact bb_f (by omega), rfl⟩)
      · refine J_iconst C dX4_isShort_48 ?_
        refine J_goto C 53 dX4_isShort_49 (by decide) ?_
        exact J_zret R C dX4_isShort_53 (by first | exact Or.inl rfl | exact Or.inr rfl | omega) (jPi.mk ⟨by first | exact bb_t (by omega) | exact bb_f (by omega), rfl⟩)
theorem c_liesWithin {G : jG} (hG : cG G) (S : jMem) (a f e : Int) (hk : cOK S) (ha : 0 ≤ a ∧ a < 3) (hf : inR f) (he : 0 ≤ e ∧ e ≤ 20) : jM G yX4_liesWithin cX4_liesWithin 4 (some .boolean) 0 0 [.ref (jad G 1), .int (iI (a)), .int (iI (f)), .int (iI (e))] S (jPi (fun v S' => bb (0 ≤ f ∧ f ≤ S 2 a - e) = v ∧ S = S')) := by
  refine jM.of (by decide) (Nat.le_of_ble_eq_true rfl) (fun E C R => ?_)
  show J E G 0 [(0, .ref (jad G 1)), (1, .int (iI (a))), (2, .int (iI (f))), (3, .int (iI (e)))] [] _
  have l0 := hk.2.1 a (by omega) (by omega)
  refine J_iload_n C 2 dX4_liesWithin_0 rfl ?_
  refine J_if_lt C 20 dX4_liesWithin_1 (by decide) (by omega) (fun h1 => ?_) (fun h1 => ?_)
  · refine J_iconst C dX4_liesWithin_20 ?_
    exact J_zret R C dX4_liesWithin_21 (by first | exact Or.inl rfl | exact Or.inr rfl | omega) (jPi.mk ⟨by first | exact bb_t (by omega) | exact bb_f (by omega), rfl⟩)
  · refine J_iload_n C 2 dX4_liesWithin_4 rfl ?_
    refine J_aload_n C 0 dX4_liesWithin_5 rfl ?_
    refine g_X4_9 hG C dX4_liesWithin_6 ?_
    refine J_iload_n C 1 dX4_liesWithin_9 rfl ?_
    refine cald hG C 2 3 (by decide) dX4_liesWithin_10 (by omega) (by omega) ?_
    refine J_iload_n C 3 dX4_liesWithin_11 rfl ?_
    refine J_isub C dX4_liesWithin_12 ?_
    refine J_icmp_gt C 20 dX4_liesWithin_13 (by decide) (by omega) (by omega) (fun h2 => ?_) (fun h2 => ?_)
    · refine J_iconst C dX4_liesWithin_20 ?_
      exact J_zret R C dX4_liesWithin_21 (by first | exact Or.inl rfl | exact Or.inr rfl | omega) (jPi.mk ⟨by first | exact bb_t (by omega) | exact bb_f (by omega), rfl⟩)
    · refine J_iconst C dX4_liesWithin_16 ?_
      refine J_goto C 21 dX4_liesWithin_17 (by decide) ?_
      exact J_zret R C dX4_liesWithin_21 (by first | exact Or.inl rfl | exact Or.inr rfl | omega) (jPi.mk ⟨by first | exact bb_t (by omega) | exact bb_f (by omega), rfl⟩)
theorem c_isPlace {G : jG} (hG : cG G) (S : jMem) (b t x y z : Int) (hk : cOK S) (hb : inR b) (ht : inR t) (hx : inR x) (hy : inR y) (hz : inR z) : jM G yX4_isPlace cX4_isPlace 6 (some .boolean) 1 23 [.ref (jad G 1), .int (iI (b)), .int (iI (t)), .int (iI (x)), .int (iI (y)), .int (iI (z))] S (jPi (fun v S' => bb (pplace (S 1 4) (S 2) (S 3) (S 4) b t x y z) = v ∧ S = S')) := by
  refine jM.of (by decide) (Nat.le_of_ble_eq_true rfl) (fun E C R => ?_)
  show J E G 0 [(0, .ref (jad G 1)), (1, .int (iI (b))), (2, .int (iI (t))), (3, .int (iI (x))), (4, .int (iI (y))), (5, .int (iI (z)))] [] _
  have hn := hk.1
  refine J_aload_n C 0 dX4_isPlace_0 rfl ?_
  refine J_iload_n C 1 dX4_isPlace_1 rfl ?_
  refine J_callV (k := 1) (rest := []) C (c_isBox hG S (b) (by omega) (by omega)) kc_X4_isBox kl_X4_46 (by rw [hG.2]; decide) (by rw [hG.1]; rfl) rfl dX4_isPlace_2 rfl rfl (by decide) (Nat.le_of_ble_eq_true rfl) (J_ki (fun v1 S1 h1 => ?_))
  obtain ⟨rfl, rfl⟩ := h1
  refine J_if_eq_b C 81 dX4_isPlace_5 (by decide) (fun h2 => ?_) (fun h2 => ?_)
  · refine J_iconst C dX4_isPlace_81 ?_
    exact J_zret R C dX4_isPlace_82 (by first | exact Or.inl rfl | exact Or.inr rfl | omega) (jPi.mk ⟨by first | exact bb_t (by omega) | exact bb_f (by omega), rfl⟩)
  · refine J_iload_n C 2 dX4_isPlace_8 rfl ?_
    refine J_if_lt C 81 dX4_isPlace_9 (by decide) (by omega) (fun h3 => ?_) (fun h3 => ?_)
    · refine J_iconst C dX4_isPlace_81 ?_
      exact J_zret R C dX4_isPlace_82 (by first | exact Or.inl rfl | exact Or.inr rfl | omega) (jPi.mk ⟨by first | exact bb_t (by omega) | exact bb_f (by omega), rfl⟩)
    · refine J_iload_n C 2 dX4_isPlace_12 rfl ?_
      refine J_bipush C dX4_isPlace_13 (by decide) ?_
      refine J_icmp_ge C 81 dX4_isPlace_15 (by decide) (by omega) (by omega) (fun h4 => ?_) (fun h4 => ?_)
      · refine J_iconst C dX4_isPlace_81 ?_
        exact J_zret R C dX4_isPlace_82 (by first | exact Or.inl rfl | exact Or.inr rfl | omega) (jPi.mk ⟨by first | exact bb_t (by omega) | exact bb_f (by omega), rfl⟩)
      · refine J_aload_n C 0 dX4_isPlace_18 rfl ?_
        refine J_iload_n C 1 dX4_isPlace_19 rfl ?_
        refine J_iload_n C 2 dX4_isPlace_20 rfl ?_
        refine J_callV (k := 1) (rest := []) C (c_hasTurn hG S (b) (t) hk (by omega) (by omega)) kc_X4_hasTurn kl_X4_35 (by rw [hG.2]; decide) (by rw [hG.1]; rfl) rfl dX4_isPlace_21 rfl rfl (by decide) (Nat.le_of_ble_eq_true rfl) (J_ki (fun v5 S5 h5 => ?_))
        obtain ⟨rfl, rfl⟩ := h5
        refine J_if_eq_b C 81 dX4_isPlace_24 (by decide) (fun h6 => ?_) (fun h6 => ?_)
        · refine J_iconst C dX4_isPlace_81 ?_
          exact J_zret R C dX4_isPlace_82 (by first | exact Or.inl rfl | exact Or.inr rfl | omega) (jPi.mk ⟨by first | exact bb_t (by omega) | exact bb_f (by omega), rfl⟩)
        · refine J_aload_n C 0 dX4_isPlace_27 rfl ?_
          refine J_iconst C dX4_isPlace_28 ?_
          refine J_iload_n C 3 dX4_isPlace_29 rfl ?_
          refine J_aload_n C 0 dX4_isPlace_30 rfl ?_
          refine J_iload_n C 1 dX4_isPlace_31 rfl ?_
          refine J_iload_n C 2 dX4_isPlace_32 rfl ?_
          refine J_iconst C dX4_isPlace_33 ?_
          refine J_callV (k := 1) (rest := [.int (iI (x)), .int (iI (0)), .ref (jad G 1)]) C (c_extent hG S (b) (t) (0) (by omega) (by omega) (by omega)) kc_X4_extent kl_X4_31 (by rw [hG.2]; decide) (by rw [hG.1]; rfl) rfl dX4_isPlace_34 rfl rfl (by decide) (Nat.le_of_ble_eq_true rfl) (J_ki (fun v7 S7 h7 => ?_))
          obtain ⟨rfl, rfl⟩ := h7
          have q10 := pext_in hk (b := b) (t := t) (a := 0) (by omega) (by omega)
          refine J_callV (k := 1) (rest := []) C (c_liesWithin hG S (0) (x) (pext (S 3) (b) (t) (0)) hk (by omega) (by omega) (by omega)) kc_X4_liesWithin kl_X4_50 (by rw [hG.2]; decide) (by rw [hG.1]; rfl) rfl dX4_isPlace_37 rfl rfl (by decide) (Nat.le_of_ble_eq_true rfl) (J_ki (fun v8 S8 h8 => ?_))
          obtain ⟨rfl, rfl⟩ := h8
          refine J_if_eq_b C 81 dX4_isPlace_40 (by decide) (fun h9 => ?_) (fun h9 => ?_)
          · refine J_iconst C dX4_isPlace_81 ?_
            exact J_zret R C dX4_isPlace_82 (by first | exact Or.inl rfl | exact Or.inr rfl | omega) (jPi.mk ⟨by first | exact bb_t (by omega) | exact bb_f (by omega), rfl⟩)
          · refine J_aload_n C 0 dX4_isPlace_43 rfl ?_
            refine J_iconst C dX4_isPlace_44 ?_
            refine J_iload C 4 dX4_isPlace_45 rfl ?_
            refine J_aload_n C 0 dX4_isPlace_47 rfl ?_
            refine J_iload_n C 1 dX4_isPlace_48 rfl ?_
            refine J_iload_n C 2 dX4_isPlace_49 rfl ?_
            refine J_iconst C dX4_isPlace_50 ?_
            refine J_callV (k := 1) (rest := [.int (iI (y)), .int (iI (1)), .ref (jad G 1)]) C (c_extent hG S (b) (t) (1) (by omega) (by omega) (by omega)) kc_X4_extent kl_X4_31 (by rw [hG.2]; decide) (by rw [hG.1]; rfl) rfl dX4_isPlace_51 rfl rfl (by decide) (Nat.le_of_ble_eq_true rfl) (J_ki (fun v10 S10 h10 => ?_))
            obtain ⟨rfl, rfl⟩ := h10
            have q11 := pext_in hk (b := b) (t := t) (a := 1) (by omega) (by omega)
            refine J_callV (k := 1) (rest := []) C (c_liesWithin hG S (1) (y) (pext (S 3) (b) (t) (1)) hk (by omega) (by omega) (by omega)) kc_X4_liesWithin kl_X4_50 (by rw [hG.2]; decide) (by rw [hG.1]; rfl) rfl dX4_isPlace_54 rfl rfl (by decide) (Nat.le_of_ble_eq_true rfl) (J_ki (fun v11 S11 h11 => ?_))
            obtain ⟨rfl, rfl⟩ := h11
            refine J_if_eq_b C 81 dX4_isPlace_57 (by decide) (fun h12 => ?_) (fun h12 => ?_)
            · refine J_iconst C dX4_isPlace_81 ?_
              exact J_zret R C dX4_isPlace_82 (by first | exact Or.inl rfl | exact Or.inr rfl | omega) (jPi.mk ⟨by first | exact bb_t (by omega) | exact bb_f (by omega), rfl⟩)
            · refine J_aload_n C 0 dX4_isPlace_60 rfl ?_
              refine J_iconst C dX4_isPlace_61 ?_
              refine J_iload C 5 dX4_isPlace_62 rfl ?_
              refine J_aload_n C 0 dX4_isPlace_64 rfl ?_
              refine J_iload_n C 1 dX4_isPlace_65 rfl ?_
              refine J_iload_n C 2 dX4_isPlace_66 rfl ?_
              refine J_iconst C dX4_isPlace_67 ?_
              refine J_callV (k := 1) (rest := [.int (iI (z)), .int (iI (2)), .ref (jad G 1)]) C (c_extent hG S (b) (t) (2) (by omega) (by omega) (by omega)) kc_X4_extent kl_X4_31 (by rw [hG.2]; decide) (by rw [hG.1]; rfl) rfl dX4_isPlace_68 rfl rfl (by decide) (Nat.le_of_ble_eq_true rfl) (J_ki (fun v13 S13 h13 => ?_))
              obtain ⟨rfl, rfl⟩ := h13
              have q12 := pext_in hk (b := b) (t := t) (a := 2) (by omega) (by omega)
              refine J_callV (k := 1) (rest := []) C (c_liesWithin hG S (2) (z) (pext (S 3) (b) (t) (2)) hk (by omega) (by omega) (by omega)) kc_X4_liesWithin kl_X4_50 (by rw [hG.2]; decide) (by rw [hG.1]; rfl) rfl dX4_isPlace_71 rfl rfl (by decide) (Nat.le_of_ble_eq_true rfl) (J_ki (fun v14 S14 h14 => ?_))
              obtain ⟨rfl, rfl⟩ := h14
              refine J_if_eq_b C 81 dX4_isPlace_74 (by decide) (fun h15 => ?_) (fun h15 => ?_)
              · refine J_iconst C dX4_isPlace_81 ?_
                exact J_zret R C dX4_isPlace_82 (by first | exact Or.inl rfl | exact Or.inr rfl | omega) (jPi.mk ⟨by first | exact bb_t (by omega) | exact bb_f (by omega), rfl⟩)
              · refine J_iconst C dX4_isPlace_77 ?_
                refine J_goto C 82 dX4_isPlace_78 (by decide) ?_
                exact J_zret R C dX4_isPlace_82 (by first | exact Or.inl rfl | exact Or.inr rfl | omega) (jPi.mk ⟨by first | exact bb_t (by omega) | exact bb_f (by omega), rfl⟩)
theorem l_counts {E : jEnv} {G : jG} (hG : cG G) (C : jX E G cX4_counts 4 RX4 2 46) (S : jMem) (b t : Int) (hk : cOK S) (hb : 0 ≤ b ∧ b < 8) (ht : 0 ≤ t ∧ t < 6) (hh : phas (S 4) b t) (hs : pshort (S 2) (S 3) b t) (R : jR E G (some .boolean) (jPi (fun v S' => bb (pcounts (S 2) (S 3) (S 4) b t) = v ∧ S = S'))) : ∀ (n : Nat) (u : Int), n = (t - u).toNat → ((0 ≤ u ∧ u ≤ t) ∧ ∀ u2, 0 ≤ u2 → u2 < u → ¬ (phas (S 4) b u2 ∧ psame (S 3) b u2 t)) → J E G 22 [(0, .ref (jad G 1)), (1, .int (iI (b))), (2, .int (iI (t))), (3, .int (iI (u)))] [] S := by
  intro n
  induction n using Nat.strongRecOn with | ind n ih => ?_
  intro u hn hi
  refine J_iload_n C 3 dX4_counts_22 rfl ?_
  refine J_iload_n C 2 dX4_counts_23 rfl ?_
  refine J_icmp_ge C 54 dX4_counts_24 (by decide) (by omega) (by omega) (fun h1 => ?_) (fun h1 => ?_)
  · refine J_iconst C dX4_counts_54 ?_
    exact J_zret R C dX4_counts_55 (Or.inr rfl) (jPi.mk ⟨bb_t ⟨hh, hs, fun u2 h1 h2 => hi.2 u2 h1 (by omega)⟩, rfl⟩)
  · refine J_aload_n C 0 dX4_counts_27 rfl ?_
    refine J_iload_n C 1 dX4_counts_28 rfl ?_
    refine J_iload_n C 3 dX4_counts_29 rfl ?_
    refine J_callV (k := 1) (rest := []) C (c_hasTurn hG S (b) (u) hk (by omega) (by omega)) kc_X4_hasTurn kl_X4_35 (by rw [hG.2]; decide) (by rw [hG.1]; rfl) rfl dX4_counts_30 rfl rfl (by decide) (Nat.le_of_ble_eq_true rfl) (J_ki (fun v2 S2 h2 => ?_))
    obtain ⟨rfl, rfl⟩ := h2
    refine J_if_eq_b C 48 dX4_counts_33 (by decide) (fun h3 => ?_) (fun h3 => ?_)
    · refine J_iinc (lv' := [(3, .int (iI (u + 1))), (0, .ref (jad G 1)), (1, .int (iI (b))), (2, .int (iI (t)))]) C 3 dX4_counts_48 rfl (by decide) rfl ?_
      refine J_goto C 22 dX4_counts_51 (by decide) ?_
      refine J_lv [1, 2, 3, 0] rfl ?_
      refine ih _ (by omega) (u + 1) rfl ⟨by omega, fun u2 h1 h2 => ?_⟩
      by_cases hu : u2 < u
      · exact hi.2 u2 h1 hu
      · have : u2 = u := by omega
        subst this
        intro hq
        first | exact absurd hq.1 (by assumption) | exact absurd hq.2 (by assumption)
    · refine J_aload_n C 0 dX4_counts_36 rfl ?_
      refine J_iload_n C 1 dX4_counts_37 rfl ?_
      refine J_iload_n C 3 dX4_counts_38 rfl ?_
      refine J_iload_n C 2 dX4_counts_39 rfl ?_
      refine J_callV (k := 1) (rest := []) C (c_sameExtents hG S (b) (u) (t) hk (by omega) (by omega) (by omega)) kc_X4_sameExtents kl_X4_42 (by rw [hG.2]; decide) (by rw [hG.1]; rfl) rfl dX4_counts_40 rfl rfl (by decide) (Nat.le_of_ble_eq_true rfl) (J_ki (fun v4 S4 h4 => ?_))
      obtain ⟨rfl, rfl⟩ := h4
      refine J_if_eq_b C 48 dX4_counts_43 (by decide) (fun h5 => ?_) (fun h5 => ?_)
      · refine J_iinc (lv' := [(3, .int (iI (u + 1))), (0, .ref (jad G 1)), (1, .int (iI (b))), (2, .int (iI (t)))]) C 3 dX4_counts_48 rfl (by decide) rfl ?_
        refine J_goto C 22 dX4_counts_51 (by decide) ?_
        refine J_lv [1, 2, 3, 0] rfl ?_
        refine ih _ (by omega) (u + 1) rfl ⟨by omega, fun u2 h1 h2 => ?_⟩
        by_cases hu : u2 < u
        · exact hi.2 u2 h1 hu
        · have : u2 = u := by omega
          subst this
          intro hq
          first | exact absurd hq.1 (by assumption) | exact absurd hq.2 (by assumption)
      · refine J_iconst C dX4_counts_46 ?_
        exact J_zret R C dX4_counts_47 (Or.inl rfl) (jPi.mk ⟨bb_f (fun hp => hp.2.2 u (by omega) (by omega) ⟨by assumption, by assumption⟩), rfl⟩)
theorem c_counts {G : jG} (hG : cG G) (S : jMem) (b t : Int) (hk : cOK S) (hb : 0 ≤ b ∧ b < 8) (ht : 0 ≤ t ∧ t < 6) : jM G yX4_counts cX4_counts 4 (some .boolean) 2 46 [.ref (jad G 1), .int (iI (b)), .int (iI (t))] S (jPi (fun v S' => bb (pcounts (S 2) (S 3) (S 4) b t) = v ∧ S = S')) := by
  refine jM.of (by decide) (Nat.le_of_ble_eq_true rfl) (fun E C R => ?_)
  show J E G 0 [(0, .ref (jad G 1)), (1, .int (iI (b))), (2, .int (iI (t)))] [] _
  refine J_aload_n C 0 dX4_counts_0 rfl ?_
  refine J_iload_n C 1 dX4_counts_1 rfl ?_
  refine J_iload_n C 2 dX4_counts_2 rfl ?_
  refine J_callV (k := 1) (rest := []) C (c_hasTurn hG S (b) (t) hk (by omega) (by omega)) kc_X4_hasTurn kl_X4_35 (by rw [hG.2]; decide) (by rw [hG.1]; rfl) rfl dX4_counts_3 rfl rfl (by decide) (Nat.le_of_ble_eq_true rfl) (J_ki (fun v1 S1 h1 => ?_))
  obtain ⟨rfl, rfl⟩ := h1
  refine J_if_eq_b C 18 dX4_counts_6 (by decide) (fun h2 => ?_) (fun h2 => ?_)
  · refine J_iconst C dX4_counts_18 ?_
    exact J_zret R C dX4_counts_19 (Or.inl rfl) (jPi.mk ⟨bb_f (fun hp => by first | exact absurd hp.1 (by assumption) | exact absurd hp.2.1 (by assumption)), rfl⟩)
  · refine J_aload_n C 0 dX4_counts_9 rfl ?_
    refine J_iload_n C 1 dX4_counts_10 rfl ?_
    refine J_iload_n C 2 dX4_counts_11 rfl ?_
    refine J_callV (k := 1) (rest := []) C (c_isShort hG S (b) (t) hk (by omega) (by omega)) kc_X4_isShort kl_X4_39 (by rw [hG.2]; decide) (by rw [hG.1]; rfl) rfl dX4_counts_12 rfl rfl (by decide) (Nat.le_of_ble_eq_true rfl) (J_ki (fun v3 S3 h3 => ?_))
    obtain ⟨rfl, rfl⟩ := h3
    refine J_if_ne_b C 20 dX4_counts_15 (by decide) (fun h4 => ?_) (fun h4 => ?_)
    · refine J_iconst C dX4_counts_20 ?_
      refine J_istore_n (lv' := [(3, .int (iI (0))), (0, .ref (jad G 1)), (1, .int (iI (b))), (2, .int (iI (t)))]) C dX4_counts_21 (by decide) rfl ?_
      refine J_lv [1, 2, 3, 0] rfl ?_
      exact l_counts hG C S b t hk hb ht (by assumption) (by assumption) R _ 0 rfl ⟨by omega, fun u2 h1 h2 => by omega⟩
    · refine J_iconst C dX4_counts_18 ?_
      exact J_zret R C dX4_counts_19 (Or.inl rfl) (jPi.mk ⟨bb_f (fun hp => by first | exact absurd hp.1 (by assumption) | exact absurd hp.2.1 (by assumption)), rfl⟩)
theorem l_room {E : jEnv} {G : jG} (hG : cG G) (C : jX E G cX4_hasRoomBeside 11 RX4 3 69) (S : jMem) (o b t x y z : Int) (hk : cOK S) (ho : 0 ≤ o ∧ o < 8) (hb : 0 ≤ b ∧ b < 8) (ht : 0 ≤ t ∧ t < 6) (hx : 0 ≤ x ∧ x ≤ 20) (hy : 0 ≤ y ∧ y ≤ 20) (hz : 0 ≤ z ∧ z ≤ 20) (R : jR E G (some .boolean) (jPi (fun v S' => bb (proom (S 2) (S 3) (S 4) o b t x y z) = v ∧ S = S'))) : ∀ (n : Nat) (u : Int), n = (6 - u).toNat → ((0 ≤ u ∧ u ≤ 6) ∧ ∀ u2, 0 ≤ u2 → u2 < u → pcounts (S 2) (S 3) (S 4) o u2 → ¬ (pext (S 3) o u2 0 ≤ max x (S 2 0 - x - pext (S 3) b t 0) ∨ pext (S 3) o u2 1 ≤ max y (S 2 1 - y - pext (S 3) b t 1) ∨ pext (S 3) o u2 2 ≤ max z (S 2 2 - z - pext (S 3) b t 2))) → J E G 75 [(0, .ref (jad G 1)), (1, .int (iI (o))), (7, .int (iI (max x (S 2 0 - x - pext (S 3) b t 0)))), (8, .int (iI (max y (S 2 1 - y - pext (S 3) b t 1)))), (9, .int (iI (max z (S 2 2 - z - pext (S 3) b t 2)))), (10, .int (iI (u)))] [] S := by
  intro n
  induction n using Nat.strongRecOn with | ind n ih => ?_
  intro u hn hi
  have l0 := hk.2.1 0 (by omega) (by omega)
  have l1 := hk.2.1 1 (by omega) (by omega)
  have l2 := hk.2.1 2 (by omega) (by omega)
  have b0 := pext_in hk (b := b) (t := t) (a := 0) (by omega) (by omega)
  have b1 := pext_in hk (b := b) (t := t) (a := 1) (by omega) (by omega)
  have b2 := pext_in hk (b := b) (t := t) (a := 2) (by omega) (by omega)
  refine J_iload C 5 dX4_hasRoomBeside_75 rfl ?_
  refine J_bipush C dX4_hasRoomBeside_77 (by decide) ?_
  refine J_icmp_ge C 139 dX4_hasRoomBeside_79 (by decide) (by omega) (by omega) (fun h1 => ?_) (fun h1 => ?_)
  · refine J_iconst C dX4_hasRoomBeside_139 ?_
    exact J_zret R C dX4_hasRoomBeside_140 (Or.inl rfl) (jPi.mk ⟨bb_f (fun ⟨u2, h1, h2, h3⟩ => hi.2 u2 h1.1 (by omega) h2 h3), rfl⟩)
  · refine J_aload_n C 0 dX4_hasRoomBeside_82 rfl ?_
    refine J_iload_n C 1 dX4_hasRoomBeside_83 rfl ?_
    refine J_iload C 5 dX4_hasRoomBeside_84 rfl ?_
    refine J_callV (k := 1) (rest := []) C (c_counts hG S (o) (u) hk (by omega) (by omega)) kc_X4_counts kl_X4_59 (by rw [hG.2]; decide) (by rw [hG.1]; rfl) rfl dX4_hasRoomBeside_86 rfl rfl (by decide) (Nat.le_of_ble_eq_true rfl) (J_ki (fun v2 S2 h2 => ?_))
    obtain ⟨rfl, rfl⟩ := h2
    refine J_if_eq_b C 133 dX4_hasRoomBeside_89 (by decide) (fun h3 => ?_) (fun h3 => ?_)
    · refine J_iinc (lv' := [(10, .int (iI (u + 1))), (0, .ref (jad G 1)), (1, .int (iI (o))), (7, .int (iI (max x (S 2 0 - x - pext (S 3) b t 0)))), (8, .int (iI (max y (S 2 1 - y - pext (S 3) b t 1)))), (9, .int (iI (max z (S 2 2 - z - pext (S 3) b t 2))))]) C 5 dX4_hasRoomBeside_133 rfl (by decide) rfl ?_
      refine J_goto C 75 dX4_hasRoomBeside_136 (by decide) ?_
      refine J_lv [1, 2, 3, 4, 5, 0] rfl ?_
      refine ih _ (by omega) (u + 1) rfl ⟨by omega, fun u2 h1 h2 => ?_⟩
      by_cases hu : u2 < u
      · exact hi.2 u2 h1 hu
      · have : u2 = u := by omega
        subst this
        intro hq
        first | exact absurd hq (by assumption) | (intro hq2; omega)
    · refine J_aload_n C 0 dX4_hasRoomBeside_92 rfl ?_
      refine J_iload_n C 1 dX4_hasRoomBeside_93 rfl ?_
      refine J_iload C 5 dX4_hasRoomBeside_94 rfl ?_
      refine J_iconst C dX4_hasRoomBeside_96 ?_
      refine J_callV (k := 1) (rest := []) C (c_extent hG S (o) (u) (0) (by omega) (by omega) (by omega)) kc_X4_extent kl_X4_31 (by rw [hG.2]; decide) (by rw [hG.1]; rfl) rfl dX4_hasRoomBeside_97 rfl rfl (by decide) (Nat.le_of_ble_eq_true rfl) (J_ki (fun v4 S4 h4 => ?_))
      obtain ⟨rfl, rfl⟩ := h4
      have q13 := pext_in hk (b := o) (t := u) (a := 0) (by omega) (by omega)
      refine J_iload C 2 dX4_hasRoomBeside_100 rfl ?_
      refine J_icmp_le C 131 dX4_hasRoomBeside_102 (by decide) (by omega) (by omega) (fun h5 => ?_) (fun h5 => ?_)
      · refine J_iconst C dX4_hasRoomBeside_131 ?_
        exact J_zret R C dX4_hasRoomBeside_132 (Or.inr rfl) (jPi.mk ⟨bb_t ⟨u, by omega, by assumption, by omega⟩, rfl⟩)
      · refine J_aload_n C 0 dX4_hasRoomBeside_105 rfl ?_
        refine J_iload_n C 1 dX4_hasRoomBeside_106 rfl ?_
        refine J_iload C 5 dX4_hasRoomBeside_107 rfl ?_
        refine J_iconst C dX4_hasRoomBeside_109 ?_
        refine J_callV (k := 1) (rest := []) C (c_extent hG S (o) (u) (1) (by omega) (by omega) (by omega)) kc_X4_extent kl_X4_31 (by rw [hG.2]; decide) (by rw [hG.1]; rfl) rfl dX4_hasRoomBeside_110 rfl rfl (by decide) (Nat.le_of_ble_eq_true rfl) (J_ki (fun v6 S6 h6 => ?_))
        obtain ⟨rfl, rfl⟩ := h6
        have q14 := pext_in hk (b := o) (t := u) (a := 1) (by omega) (by omega)
        refine J_iload C 3 dX4_hasRoomBeside_113 rfl ?_
        refine J_icmp_le C 131 dX4_hasRoomBeside_115 (by decide) (by omega) (by omega) (fun h7 => ?_) (fun h7 => ?_)
        · refine J_iconst C dX4_hasRoomBeside_131 ?_
          exact J_zret R C dX4_hasRoomBeside_132 (Or.inr rfl) (jPi.mk ⟨bb_t ⟨u, by omega, by assumption, by omega⟩, rfl⟩)
        · refine J_aload_n C 0 dX4_hasRoomBeside_118 rfl ?_
          refine J_iload_n C 1 dX4_hasRoomBeside_119 rfl ?_
          refine J_iload C 5 dX4_hasRoomBeside_120 rfl ?_
          refine J_iconst C dX4_hasRoomBeside_122 ?_
          refine J_callV (k := 1) (rest := []) C (c_extent hG S (o) (u) (2) (by omega) (by omega) (by omega)) kc_X4_extent kl_X4_31 (by rw [hG.2]; decide) (by rw [hG.1]; rfl) rfl dX4_hasRoomBeside_123 rfl rfl (by decide) (Nat.le_of_ble_eq_true rfl) (J_ki (fun v8 S8 h8 => ?_))
          obtain ⟨rfl, rfl⟩ := h8
          have q15 := pext_in hk (b := o) (t := u) (a := 2) (by omega) (by omega)
          refine J_iload C 4 dX4_hasRoomBeside_126 rfl ?_
          refine J_icmp_gt C 133 dX4_hasRoomBeside_128 (by decide) (by omega) (by omega) (fun h9 => ?_) (fun h9 => ?_)
          · refine J_iinc (lv' := [(10, .int (iI (u + 1))), (0, .ref (jad G 1)), (1, .int (iI (o))), (7, .int (iI (max x (S 2 0 - x - pext (S 3) b t 0)))), (8, .int (iI (max y (S 2 1 - y - pext (S 3) b t 1)))), (9, .int (iI (max z (S 2 2 - z - pext (S 3) b t 2))))]) C 5 dX4_hasRoomBeside_133 rfl (by decide) rfl ?_
            refine J_goto C 75 dX4_hasRoomBeside_136 (by decide) ?_
            refine J_lv [1, 2, 3, 4, 5, 0] rfl ?_
            refine ih _ (by omega) (u + 1) rfl ⟨by omega, fun u2 h1 h2 => ?_⟩
            by_cases hu : u2 < u
            · exact hi.2 u2 h1 hu
            · have : u2 = u := by omega
              subst this
              intro hq
              first | exact absurd hq (by assumption) | (intro hq2; omega)
          · refine J_iconst C dX4_hasRoomBeside_131 ?_
            exact J_zret R C dX4_hasRoomBeside_132 (Or.inr rfl) (jPi.mk ⟨bb_t ⟨u, by omega, by assumption, by omega⟩, rfl⟩)
theorem c_hasRoom {G : jG} (hG : cG G) (S : jMem) (o b t x y z : Int) (hk : cOK S) (ho : 0 ≤ o ∧ o < 8) (hb : 0 ≤ b ∧ b < 8) (ht : 0 ≤ t ∧ t < 6) (hx : 0 ≤ x ∧ x ≤ 20) (hy : 0 ≤ y ∧ y ≤ 20) (hz : 0 ≤ z ∧ z ≤ 20) : jM G yX4_hasRoomBeside cX4_hasRoomBeside 11 (some .boolean) 3 69 [.ref (jad G 1), .int (iI (o)), .int (iI (b)), .int (iI (t)), .int (iI (x)), .int (iI (y)), .int (iI (z))] S (jPi (fun v S' => bb (proom (S 2) (S 3) (S 4) o b t x y z) = v ∧ S = S')) := by
  refine jM.of (by decide) (Nat.le_of_ble_eq_true rfl) (fun E C R => ?_)
  show J E G 0 [(0, .ref (jad G 1)), (1, .int (iI (o))), (2, .int (iI (b))), (3, .int (iI (t))), (4, .int (iI (x))), (5, .int (iI (y))), (6, .int (iI (z)))] [] _
  have l0 := hk.2.1 0 (by omega) (by omega)
  have l1 := hk.2.1 1 (by omega) (by omega)
  have l2 := hk.2.1 2 (by omega) (by omega)
  have b0 := pext_in hk (b := b) (t := t) (a := 0) (by omega) (by omega)
  have b1 := pext_in hk (b := b) (t := t) (a := 1) (by omega) (by omega)
  have b2 := pext_in hk (b := b) (t := t) (a := 2) (by omega) (by omega)
  refine J_iload C 4 dX4_hasRoomBeside_0 rfl ?_
  refine J_aload_n C 0 dX4_hasRoomBeside_2 rfl ?_
  refine g_X4_9 hG C dX4_hasRoomBeside_3 ?_
  refine J_iconst C dX4_hasRoomBeside_6 ?_
  refine cald hG C 2 3 (by decide) dX4_hasRoomBeside_7 (by omega) (by omega) ?_
  refine J_iload C 4 dX4_hasRoomBeside_8 rfl ?_
  refine J_isub C dX4_hasRoomBeside_10 ?_
  refine J_aload_n C 0 dX4_hasRoomBeside_11 rfl ?_
  refine J_iload_n C 2 dX4_hasRoomBeside_12 rfl ?_
  refine J_iload_n C 3 dX4_hasRoomBeside_13 rfl ?_
  refine J_iconst C dX4_hasRoomBeside_14 ?_
  refine J_callV (k := 1) (rest := [.int (iI ((S 2 (0)) - (x))), .int (iI (x))]) C (c_extent hG S (b) (t) (0) (by omega) (by omega) (by omega)) kc_X4_extent kl_X4_31 (by rw [hG.2]; decide) (by rw [hG.1]; rfl) rfl dX4_hasRoomBeside_15 rfl rfl (by decide) (Nat.le_of_ble_eq_true rfl) (J_ki (fun v1 S1 h1 => ?_))
  obtain ⟨rfl, rfl⟩ := h1
  have q16 := pext_in hk (b := b) (t := t) (a := 0) (by omega) (by omega)
  refine J_isub C dX4_hasRoomBeside_18 ?_
  refine J_callS (rest := []) C (c_max hG S (x) (((S 2 (0)) - (x)) - (pext (S 3) (b) (t) (0))) (by omega) (by omega)) kc_J9_max_7cf53 kl_X4_53 dX4_hasRoomBeside_19 rfl rfl (by decide) (Nat.le_of_ble_eq_true rfl) (J_ki (fun v2 S2 h2 => ?_))
  obtain ⟨rfl, rfl⟩ := h2
  refine J_istore (lv' := [(7, .int (iI (max (x) (((S 2 (0)) - (x)) - (pext (S 3) (b) (t) (0)))))), (0, .ref (jad G 1)), (1, .int (iI (o))), (2, .int (iI (b))), (3, .int (iI (t))), (4, .int (iI (x))), (5, .int (iI (y))), (6, .int (iI (z)))]) C dX4_hasRoomBeside_22 (by decide) rfl ?_
  refine J_iload C 6 dX4_hasRoomBeside_24 rfl ?_
  refine J_aload_n C 1 dX4_hasRoomBeside_26 rfl ?_
  refine g_X4_9 hG C dX4_hasRoomBeside_27 ?_
  refine J_iconst C dX4_hasRoomBeside_30 ?_
  refine cald hG C 2 3 (by decide) dX4_hasRoomBeside_31 (by omega) (by omega) ?_
  refine J_iload C 6 dX4_hasRoomBeside_32 rfl ?_
  refine J_isub C dX4_hasRoomBeside_34 ?_
  refine J_aload_n C 1 dX4_hasRoomBeside_35 rfl ?_
  refine J_iload_n C 3 dX4_hasRoomBeside_36 rfl ?_
  refine J_iload_n C 4 dX4_hasRoomBeside_37 rfl ?_
  refine J_iconst C dX4_hasRoomBeside_38 ?_
  refine J_callV (k := 1) (rest := [.int (iI ((S 2 (1)) - (y))), .int (iI (y))]) C (c_extent hG S (b) (t) (1) (by omega) (by omega) (by omega)) kc_X4_extent kl_X4_31 (by rw [hG.2]; decide) (by rw [hG.1]; rfl) rfl dX4_hasRoomBeside_39 rfl rfl (by decide) (Nat.le_of_ble_eq_true rfl) (J_ki (fun v3 S3 h3 => ?_))
  obtain ⟨rfl, rfl⟩ := h3
  have q17 := pext_in hk (b := b) (t := t) (a := 1) (by omega) (by omega)
  refine J_isub C dX4_hasRoomBeside_42 ?_
  refine J_callS (rest := []) C (c_max hG S (y) (((S 2 (1)) - (y)) - (pext (S 3) (b) (t) (1))) (by omega) (by omega)) kc_J9_max_7cf53 kl_X4_53 dX4_hasRoomBeside_43 rfl rfl (by decide) (Nat.le_of_ble_eq_true rfl) (J_ki (fun v4 S4 h4 => ?_))
  obtain ⟨rfl, rfl⟩ := h4
  refine J_istore (lv' := [(8, .int (iI (max (y) (((S 2 (1)) - (y)) - (pext (S 3) (b) (t) (1)))))), (7, .int (iI (max (x) (((S 2 (0)) - (x)) - (pext (S 3) (b) (t) (0)))))), (0, .ref (jad G 1)), (1, .int (iI (o))), (2, .int (iI (b))), (3, .int (iI (t))), (4, .int (iI (x))), (5, .int (iI (y))), (6, .int (iI (z)))]) C dX4_hasRoomBeside_46 (by decide) rfl ?_
  refine J_iload C 8 dX4_hasRoomBeside_48 rfl ?_
  refine J_aload_n C 2 dX4_hasRoomBeside_50 rfl ?_
  refine g_X4_9 hG C dX4_hasRoomBeside_51 ?_
  refine J_iconst C dX4_hasRoomBeside_54 ?_
  refine cald hG C 2 3 (by decide) dX4_hasRoomBeside_55 (by omega) (by omega) ?_
  refine J_iload C 8 dX4_hasRoomBeside_56 rfl ?_
  refine J_isub C dX4_hasRoomBeside_58 ?_
  refine J_aload_n C 2 dX4_hasRoomBeside_59 rfl ?_
  refine J_iload_n C 4 dX4_hasRoomBeside_60 rfl ?_
  refine J_iload_n C 5 dX4_hasRoomBeside_61 rfl ?_
  refine J_iconst C dX4_hasRoomBeside_62 ?_
  refine J_callV (k := 1) (rest := [.int (iI ((S 2 (2)) - (z))), .int (iI (z))]) C (c_extent hG S (b) (t) (2) (by omega) (by omega) (by omega)) kc_X4_extent kl_X4_31 (by rw [hG.2]; decide) (by rw [hG.1]; rfl) rfl dX4_hasRoomBeside_63 rfl rfl (by decide) (Nat.le_of_ble_eq_true rfl) (J_ki (fun v5 S5 h5 => ?_))
  obtain ⟨rfl, rfl⟩ := h5
  have q18 := pext_in hk (b := b) (t := t) (a := 2) (by omega) (by omega)
  refine J_isub C dX4_hasRoomBeside_66 ?_
  refine J_callS (rest := []) C (c_max hG S (z) (((S 2 (2)) - (z)) - (pext (S 3) (b) (t) (2))) (by omega) (by omega)) kc_J9_max_7cf53 kl_X4_53 dX4_hasRoomBeside_67 rfl rfl (by decide) (Nat.le_of_ble_eq_true rfl) (J_ki (fun v6 S6 h6 => ?_))
  obtain ⟨rfl, rfl⟩ := h6
  refine J_istore (lv' := [(9, .int (iI (max (z) (((S 2 (2)) - (z)) - (pext (S 3) (b) (t) (2)))))), (8, .int (iI (max (y) (((S 2 (1)) - (y)) - (pext (S 3) (b) (t) (1)))))), (7, .int (iI (max (x) (((S 2 (0)) - (x)) - (pext (S 3) (b) (t) (0)))))), (0, .ref (jad G 1)), (1, .int (iI (o))), (2, .int (iI (b))), (3, .int (iI (t))), (4, .int (iI (x))), (5, .int (iI (y))), (6, .int (iI (z)))]) C dX4_hasRoomBeside_70 (by decide) rfl ?_
  refine J_iconst C dX4_hasRoomBeside_72 ?_
  refine J_istore (lv' := [(10, .int (iI (0))), (9, .int (iI (max (z) (((S 2 (2)) - (z)) - (pext (S 3) (b) (t) (2)))))), (8, .int (iI (max (y) (((S 2 (1)) - (y)) - (pext (S 3) (b) (t) (1)))))), (7, .int (iI (max (x) (((S 2 (0)) - (x)) - (pext (S 3) (b) (t) (0)))))), (0, .ref (jad G 1)), (1, .int (iI (o))), (2, .int (iI (b))), (3, .int (iI (t))), (4, .int (iI (x))), (5, .int (iI (y))), (6, .int (iI (z)))]) C dX4_hasRoomBeside_73 (by decide) rfl ?_
  refine J_lv [4, 5, 3, 2, 1, 0] rfl ?_
  exact l_room hG C S o b t x y z hk ho hb ht hx hy hz R _ 0 rfl ⟨by omega, fun u2 h1 h2 => by omega⟩
end
section
theorem dX2_init_0 : decode cX2_init 0 = .ok (.aload_n 0, 1) := by decide +kernel
theorem dX2_init_1 : decode cX2_init 1 = .ok (.invokespecial 3, 3) := by decide +kernel
theorem dX2_init_4 : decode cX2_init 4 = .ok (.aload_n 0, 1) := by decide +kernel
theorem dX2_init_5 : decode cX2_init 5 = .ok (.bipush 8, 2) := by decide +kernel
theorem dX2_init_7 : decode cX2_init 7 = .ok (.newarray .int, 2) := by decide +kernel
theorem dX2_init_9 : decode cX2_init 9 = .ok (.putfield 9, 3) := by decide +kernel
theorem dX2_init_12 : decode cX2_init 12 = .ok (.aload_n 0, 1) := by decide +kernel
theorem dX2_init_13 : decode cX2_init 13 = .ok (.bipush 24, 2) := by decide +kernel
theorem dX2_init_15 : decode cX2_init 15 = .ok (.newarray .int, 2) := by decide +kernel
theorem dX2_init_17 : decode cX2_init 17 = .ok (.putfield 15, 3) := by decide +kernel
theorem dX2_init_20 : decode cX2_init 20 = .ok (.aload_n 0, 1) := by decide +kernel
theorem dX2_init_21 : decode cX2_init 21 = .ok (.bipush 24, 2) := by decide +kernel
theorem dX2_init_23 : decode cX2_init 23 = .ok (.newarray .int, 2) := by decide +kernel
theorem dX2_init_25 : decode cX2_init 25 = .ok (.putfield 18, 3) := by decide +kernel
theorem dX2_init_28 : decode cX2_init 28 = .ok (.aload_n 0, 1) := by decide +kernel
theorem dX2_init_29 : decode cX2_init 29 = .ok (.aload_n 1, 1) := by decide +kernel
theorem dX2_init_30 : decode cX2_init 30 = .ok (.putfield 21, 3) := by decide +kernel
theorem dX2_init_33 : decode cX2_init 33 = .ok (.return_, 1) := by decide +kernel
theorem dX2_holds_0 : decode cX2_holds 0 = .ok (.aload_n 0, 1) := by decide +kernel
theorem dX2_holds_1 : decode cX2_holds 1 = .ok (.getfield 25, 3) := by decide +kernel
theorem dX2_holds_4 : decode cX2_holds 4 = .ok (.iload_n 1, 1) := by decide +kernel
theorem dX2_holds_5 : decode cX2_holds 5 = .ok (.ishr, 1) := by decide +kernel
theorem dX2_holds_6 : decode cX2_holds 6 = .ok (.iconst 1, 1) := by decide +kernel
theorem dX2_holds_7 : decode cX2_holds 7 = .ok (.iand, 1) := by decide +kernel
theorem dX2_holds_8 : decode cX2_holds 8 = .ok (.iconst 1, 1) := by decide +kernel
theorem dX2_holds_9 : decode cX2_holds 9 = .ok (.if_icmp .ne 7, 3) := by decide +kernel
theorem dX2_holds_12 : decode cX2_holds 12 = .ok (.iconst 1, 1) := by decide +kernel
theorem dX2_holds_13 : decode cX2_holds 13 = .ok (.goto 4, 3) := by decide +kernel
theorem dX2_holds_16 : decode cX2_holds 16 = .ok (.iconst 0, 1) := by decide +kernel
theorem dX2_holds_17 : decode cX2_holds 17 = .ok (.ireturn, 1) := by decide +kernel
theorem dX2_takeAway_0 : decode cX2_takeAway 0 = .ok (.aload_n 0, 1) := by decide +kernel
theorem dX2_takeAway_1 : decode cX2_takeAway 1 = .ok (.dup, 1) := by decide +kernel
theorem dX2_takeAway_2 : decode cX2_takeAway 2 = .ok (.getfield 25, 3) := by decide +kernel
theorem dX2_takeAway_5 : decode cX2_takeAway 5 = .ok (.iconst 1, 1) := by decide +kernel
theorem dX2_takeAway_6 : decode cX2_takeAway 6 = .ok (.iload_n 1, 1) := by decide +kernel
theorem dX2_takeAway_7 : decode cX2_takeAway 7 = .ok (.ishl, 1) := by decide +kernel
theorem dX2_takeAway_8 : decode cX2_takeAway 8 = .ok (.iconst (-1), 1) := by decide +kernel
theorem dX2_takeAway_9 : decode cX2_takeAway 9 = .ok (.ixor, 1) := by decide +kernel
theorem dX2_takeAway_10 : decode cX2_takeAway 10 = .ok (.iand, 1) := by decide +kernel
theorem dX2_takeAway_11 : decode cX2_takeAway 11 = .ok (.putfield 25, 3) := by decide +kernel
theorem dX2_takeAway_14 : decode cX2_takeAway 14 = .ok (.return_, 1) := by decide +kernel
theorem dX2_takeAllAway_0 : decode cX2_takeAllAway 0 = .ok (.aload_n 0, 1) := by decide +kernel
theorem dX2_takeAllAway_1 : decode cX2_takeAllAway 1 = .ok (.iconst 0, 1) := by decide +kernel
theorem dX2_takeAllAway_2 : decode cX2_takeAllAway 2 = .ok (.putfield 25, 3) := by decide +kernel
theorem dX2_takeAllAway_5 : decode cX2_takeAllAway 5 = .ok (.return_, 1) := by decide +kernel
theorem dX2_put_0 : decode cX2_put 0 = .ok (.aload_n 0, 1) := by decide +kernel
theorem dX2_put_1 : decode cX2_put 1 = .ok (.getfield 9, 3) := by decide +kernel
theorem dX2_put_4 : decode cX2_put 4 = .ok (.iload_n 1, 1) := by decide +kernel
theorem dX2_put_5 : decode cX2_put 5 = .ok (.iload_n 2, 1) := by decide +kernel
theorem dX2_put_6 : decode cX2_put 6 = .ok (.iastore, 1) := by decide +kernel
theorem dX2_put_7 : decode cX2_put 7 = .ok (.aload_n 0, 1) := by decide +kernel
theorem dX2_put_8 : decode cX2_put 8 = .ok (.getfield 15, 3) := by decide +kernel
theorem dX2_put_11 : decode cX2_put 11 = .ok (.iload_n 1, 1) := by decide +kernel
theorem dX2_put_12 : decode cX2_put 12 = .ok (.iconst 3, 1) := by decide +kernel
theorem dX2_put_13 : decode cX2_put 13 = .ok (.imul, 1) := by decide +kernel
theorem dX2_put_14 : decode cX2_put 14 = .ok (.iload_n 3, 1) := by decide +kernel
theorem dX2_put_15 : decode cX2_put 15 = .ok (.iastore, 1) := by decide +kernel
theorem dX2_put_16 : decode cX2_put 16 = .ok (.aload_n 0, 1) := by decide +kernel
theorem dX2_put_17 : decode cX2_put 17 = .ok (.getfield 15, 3) := by decide +kernel
theorem dX2_put_20 : decode cX2_put 20 = .ok (.iload_n 1, 1) := by decide +kernel
theorem dX2_put_21 : decode cX2_put 21 = .ok (.iconst 3, 1) := by decide +kernel
theorem dX2_put_22 : decode cX2_put 22 = .ok (.imul, 1) := by decide +kernel
theorem dX2_put_23 : decode cX2_put 23 = .ok (.iconst 1, 1) := by decide +kernel
theorem dX2_put_24 : decode cX2_put 24 = .ok (.iadd, 1) := by decide +kernel
theorem dX2_put_25 : decode cX2_put 25 = .ok (.iload 4, 2) := by decide +kernel
theorem dX2_put_27 : decode cX2_put 27 = .ok (.iastore, 1) := by decide +kernel
theorem dX2_put_28 : decode cX2_put 28 = .ok (.aload_n 0, 1) := by decide +kernel
theorem dX2_put_29 : decode cX2_put 29 = .ok (.getfield 15, 3) := by decide +kernel
theorem dX2_put_32 : decode cX2_put 32 = .ok (.iload_n 1, 1) := by decide +kernel
theorem dX2_put_33 : decode cX2_put 33 = .ok (.iconst 3, 1) := by decide +kernel
theorem dX2_put_34 : decode cX2_put 34 = .ok (.imul, 1) := by decide +kernel
theorem dX2_put_35 : decode cX2_put 35 = .ok (.iconst 2, 1) := by decide +kernel
theorem dX2_put_36 : decode cX2_put 36 = .ok (.iadd, 1) := by decide +kernel
theorem dX2_put_37 : decode cX2_put 37 = .ok (.iload 5, 2) := by decide +kernel
theorem dX2_put_39 : decode cX2_put 39 = .ok (.iastore, 1) := by decide +kernel
theorem dX2_put_40 : decode cX2_put 40 = .ok (.iconst 0, 1) := by decide +kernel
theorem dX2_put_41 : decode cX2_put 41 = .ok (.istore 6, 2) := by decide +kernel
theorem dX2_put_43 : decode cX2_put 43 = .ok (.iload 6, 2) := by decide +kernel
theorem dX2_put_45 : decode cX2_put 45 = .ok (.iconst 3, 1) := by decide +kernel
theorem dX2_put_46 : decode cX2_put 46 = .ok (.if_icmp .ge 43, 3) := by decide +kernel
theorem dX2_put_49 : decode cX2_put 49 = .ok (.iload_n 1, 1) := by decide +kernel
theorem dX2_put_50 : decode cX2_put 50 = .ok (.iconst 3, 1) := by decide +kernel
theorem dX2_put_51 : decode cX2_put 51 = .ok (.imul, 1) := by decide +kernel
theorem dX2_put_52 : decode cX2_put 52 = .ok (.iload 6, 2) := by decide +kernel
theorem dX2_put_54 : decode cX2_put 54 = .ok (.iadd, 1) := by decide +kernel
theorem dX2_put_55 : decode cX2_put 55 = .ok (.istore 7, 2) := by decide +kernel
theorem dX2_put_57 : decode cX2_put 57 = .ok (.aload_n 0, 1) := by decide +kernel
theorem dX2_put_58 : decode cX2_put 58 = .ok (.getfield 18, 3) := by decide +kernel
theorem dX2_put_61 : decode cX2_put 61 = .ok (.iload 7, 2) := by decide +kernel
theorem dX2_put_63 : decode cX2_put 63 = .ok (.aload_n 0, 1) := by decide +kernel
theorem dX2_put_64 : decode cX2_put 64 = .ok (.getfield 15, 3) := by decide +kernel
theorem dX2_put_67 : decode cX2_put 67 = .ok (.iload 7, 2) := by decide +kernel
theorem dX2_put_69 : decode cX2_put 69 = .ok (.iaload, 1) := by decide +kernel
theorem dX2_put_70 : decode cX2_put 70 = .ok (.aload_n 0, 1) := by decide +kernel
theorem dX2_put_71 : decode cX2_put 71 = .ok (.getfield 21, 3) := by decide +kernel
theorem dX2_put_74 : decode cX2_put 74 = .ok (.iload_n 1, 1) := by decide +kernel
theorem dX2_put_75 : decode cX2_put 75 = .ok (.iload_n 2, 1) := by decide +kernel
theorem dX2_put_76 : decode cX2_put 76 = .ok (.iload 6, 2) := by decide +kernel
theorem dX2_put_78 : decode cX2_put 78 = .ok (.invokevirtual 29, 3) := by decide +kernel
theorem dX2_put_81 : decode cX2_put 81 = .ok (.iadd, 1) := by decide +kernel
theorem dX2_put_82 : decode cX2_put 82 = .ok (.iastore, 1) := by decide +kernel
theorem dX2_put_83 : decode cX2_put 83 = .ok (.iinc 6 1, 3) := by decide +kernel
theorem dX2_put_86 : decode cX2_put 86 = .ok (.goto (-43), 3) := by decide +kernel
theorem dX2_put_89 : decode cX2_put 89 = .ok (.aload_n 0, 1) := by decide +kernel
theorem dX2_put_90 : decode cX2_put 90 = .ok (.dup, 1) := by decide +kernel
theorem dX2_put_91 : decode cX2_put 91 = .ok (.getfield 25, 3) := by decide +kernel
theorem dX2_put_94 : decode cX2_put 94 = .ok (.iconst 1, 1) := by decide +kernel
theorem dX2_put_95 : decode cX2_put 95 = .ok (.iload_n 1, 1) := by decide +kernel
theorem dX2_put_96 : decode cX2_put 96 = .ok (.ishl, 1) := by decide +kernel
theorem dX2_put_97 : decode cX2_put 97 = .ok (.ior, 1) := by decide +kernel
theorem dX2_put_98 : decode cX2_put 98 = .ok (.putfield 25, 3) := by decide +kernel
theorem dX2_put_101 : decode cX2_put 101 = .ok (.return_, 1) := by decide +kernel
theorem dX2_extentOf_0 : decode cX2_extentOf 0 = .ok (.aload_n 0, 1) := by decide +kernel
theorem dX2_extentOf_1 : decode cX2_extentOf 1 = .ok (.getfield 18, 3) := by decide +kernel
theorem dX2_extentOf_4 : decode cX2_extentOf 4 = .ok (.iload_n 1, 1) := by decide +kernel
theorem dX2_extentOf_5 : decode cX2_extentOf 5 = .ok (.iconst 3, 1) := by decide +kernel
theorem dX2_extentOf_6 : decode cX2_extentOf 6 = .ok (.imul, 1) := by decide +kernel
theorem dX2_extentOf_7 : decode cX2_extentOf 7 = .ok (.iload_n 2, 1) := by decide +kernel
theorem dX2_extentOf_8 : decode cX2_extentOf 8 = .ok (.iadd, 1) := by decide +kernel
theorem dX2_extentOf_9 : decode cX2_extentOf 9 = .ok (.iaload, 1) := by decide +kernel
theorem dX2_extentOf_10 : decode cX2_extentOf 10 = .ok (.aload_n 0, 1) := by decide +kernel
theorem dX2_extentOf_11 : decode cX2_extentOf 11 = .ok (.getfield 15, 3) := by decide +kernel
theorem dX2_extentOf_14 : decode cX2_extentOf 14 = .ok (.iload_n 1, 1) := by decide +kernel
theorem dX2_extentOf_15 : decode cX2_extentOf 15 = .ok (.iconst 3, 1) := by decide +kernel
theorem dX2_extentOf_16 : decode cX2_extentOf 16 = .ok (.imul, 1) := by decide +kernel
theorem dX2_extentOf_17 : decode cX2_extentOf 17 = .ok (.iload_n 2, 1) := by decide +kernel
theorem dX2_extentOf_18 : decode cX2_extentOf 18 = .ok (.iadd, 1) := by decide +kernel
theorem dX2_extentOf_19 : decode cX2_extentOf 19 = .ok (.iaload, 1) := by decide +kernel
theorem dX2_extentOf_20 : decode cX2_extentOf 20 = .ok (.isub, 1) := by decide +kernel
theorem dX2_extentOf_21 : decode cX2_extentOf 21 = .ok (.ireturn, 1) := by decide +kernel
theorem dX2_overlapCount_0 : decode cX2_overlapCount 0 = .ok (.iconst 0, 1) := by decide +kernel
theorem dX2_overlapCount_1 : decode cX2_overlapCount 1 = .ok (.istore_n 1, 1) := by decide +kernel
theorem dX2_overlapCount_2 : decode cX2_overlapCount 2 = .ok (.iconst 0, 1) := by decide +kernel
theorem dX2_overlapCount_3 : decode cX2_overlapCount 3 = .ok (.istore_n 2, 1) := by decide +kernel
theorem dX2_overlapCount_4 : decode cX2_overlapCount 4 = .ok (.iload_n 2, 1) := by decide +kernel
theorem dX2_overlapCount_5 : decode cX2_overlapCount 5 = .ok (.bipush 8, 2) := by decide +kernel
theorem dX2_overlapCount_7 : decode cX2_overlapCount 7 = .ok (.if_icmp .ge 55, 3) := by decide +kernel
theorem dX2_overlapCount_10 : decode cX2_overlapCount 10 = .ok (.iload_n 2, 1) := by decide +kernel
theorem dX2_overlapCount_11 : decode cX2_overlapCount 11 = .ok (.iconst 1, 1) := by decide +kernel
theorem dX2_overlapCount_12 : decode cX2_overlapCount 12 = .ok (.iadd, 1) := by decide +kernel
theorem dX2_overlapCount_13 : decode cX2_overlapCount 13 = .ok (.istore_n 3, 1) := by decide +kernel
theorem dX2_overlapCount_14 : decode cX2_overlapCount 14 = .ok (.iload_n 3, 1) := by decide +kernel
theorem dX2_overlapCount_15 : decode cX2_overlapCount 15 = .ok (.bipush 8, 2) := by decide +kernel
theorem dX2_overlapCount_17 : decode cX2_overlapCount 17 = .ok (.if_icmp .ge 39, 3) := by decide +kernel
theorem dX2_overlapCount_20 : decode cX2_overlapCount 20 = .ok (.aload_n 0, 1) := by decide +kernel
theorem dX2_overlapCount_21 : decode cX2_overlapCount 21 = .ok (.iload_n 2, 1) := by decide +kernel
theorem dX2_overlapCount_22 : decode cX2_overlapCount 22 = .ok (.invokevirtual 35, 3) := by decide +kernel
theorem dX2_overlapCount_25 : decode cX2_overlapCount 25 = .ok (.ifCond .eq 25, 3) := by decide +kernel
theorem dX2_overlapCount_28 : decode cX2_overlapCount 28 = .ok (.aload_n 0, 1) := by decide +kernel
theorem dX2_overlapCount_29 : decode cX2_overlapCount 29 = .ok (.iload_n 3, 1) := by decide +kernel
theorem dX2_overlapCount_30 : decode cX2_overlapCount 30 = .ok (.invokevirtual 35, 3) := by decide +kernel
theorem dX2_overlapCount_33 : decode cX2_overlapCount 33 = .ok (.ifCond .eq 17, 3) := by decide +kernel
theorem dX2_overlapCount_36 : decode cX2_overlapCount 36 = .ok (.aload_n 0, 1) := by decide +kernel
theorem dX2_overlapCount_37 : decode cX2_overlapCount 37 = .ok (.iload_n 2, 1) := by decide +kernel
theorem dX2_overlapCount_38 : decode cX2_overlapCount 38 = .ok (.iload_n 3, 1) := by decide +kernel
theorem dX2_overlapCount_39 : decode cX2_overlapCount 39 = .ok (.invokevirtual 39, 3) := by decide +kernel
theorem dX2_overlapCount_42 : decode cX2_overlapCount 42 = .ok (.bipush (-9), 2) := by decide +kernel
theorem dX2_overlapCount_44 : decode cX2_overlapCount 44 = .ok (.if_icmp .ne 6, 3) := by decide +kernel
theorem dX2_overlapCount_47 : decode cX2_overlapCount 47 = .ok (.iinc 1 1, 3) := by decide +kernel
theorem dX2_overlapCount_50 : decode cX2_overlapCount 50 = .ok (.iinc 3 1, 3) := by decide +kernel
theorem dX2_overlapCount_53 : decode cX2_overlapCount 53 = .ok (.goto (-39), 3) := by decide +kernel
theorem dX2_overlapCount_56 : decode cX2_overlapCount 56 = .ok (.iinc 2 1, 3) := by decide +kernel
theorem dX2_overlapCount_59 : decode cX2_overlapCount 59 = .ok (.goto (-55), 3) := by decide +kernel
theorem dX2_overlapCount_62 : decode cX2_overlapCount 62 = .ok (.iload_n 1, 1) := by decide +kernel
theorem dX2_overlapCount_63 : decode cX2_overlapCount 63 = .ok (.ireturn, 1) := by decide +kernel
theorem dX2_firstGap_0 : decode cX2_firstGap 0 = .ok (.iconst 0, 1) := by decide +kernel
theorem dX2_firstGap_1 : decode cX2_firstGap 1 = .ok (.istore_n 3, 1) := by decide +kernel
theorem dX2_firstGap_2 : decode cX2_firstGap 2 = .ok (.iload_n 3, 1) := by decide +kernel
theorem dX2_firstGap_3 : decode cX2_firstGap 3 = .ok (.iconst 3, 1) := by decide +kernel
theorem dX2_firstGap_4 : decode cX2_firstGap 4 = .ok (.if_icmp .ge 65, 3) := by decide +kernel
theorem dX2_firstGap_7 : decode cX2_firstGap 7 = .ok (.aload_n 0, 1) := by decide +kernel
theorem dX2_firstGap_8 : decode cX2_firstGap 8 = .ok (.getfield 18, 3) := by decide +kernel
theorem dX2_firstGap_11 : decode cX2_firstGap 11 = .ok (.iload_n 1, 1) := by decide +kernel
theorem dX2_firstGap_12 : decode cX2_firstGap 12 = .ok (.iconst 3, 1) := by decide +kernel
theorem dX2_firstGap_13 : decode cX2_firstGap 13 = .ok (.imul, 1) := by decide +kernel
theorem dX2_firstGap_14 : decode cX2_firstGap 14 = .ok (.iload_n 3, 1) := by decide +kernel
theorem dX2_firstGap_15 : decode cX2_firstGap 15 = .ok (.iadd, 1) := by decide +kernel
theorem dX2_firstGap_16 : decode cX2_firstGap 16 = .ok (.iaload, 1) := by decide +kernel
theorem dX2_firstGap_17 : decode cX2_firstGap 17 = .ok (.aload_n 0, 1) := by decide +kernel
theorem dX2_firstGap_18 : decode cX2_firstGap 18 = .ok (.getfield 15, 3) := by decide +kernel
theorem dX2_firstGap_21 : decode cX2_firstGap 21 = .ok (.iload_n 2, 1) := by decide +kernel
theorem dX2_firstGap_22 : decode cX2_firstGap 22 = .ok (.iconst 3, 1) := by decide +kernel
theorem dX2_firstGap_23 : decode cX2_firstGap 23 = .ok (.imul, 1) := by decide +kernel
theorem dX2_firstGap_24 : decode cX2_firstGap 24 = .ok (.iload_n 3, 1) := by decide +kernel
theorem dX2_firstGap_25 : decode cX2_firstGap 25 = .ok (.iadd, 1) := by decide +kernel
theorem dX2_firstGap_26 : decode cX2_firstGap 26 = .ok (.iaload, 1) := by decide +kernel
theorem dX2_firstGap_27 : decode cX2_firstGap 27 = .ok (.if_icmp .gt 7, 3) := by decide +kernel
theorem dX2_firstGap_30 : decode cX2_firstGap 30 = .ok (.iconst 2, 1) := by decide +kernel
theorem dX2_firstGap_31 : decode cX2_firstGap 31 = .ok (.iload_n 3, 1) := by decide +kernel
theorem dX2_firstGap_32 : decode cX2_firstGap 32 = .ok (.imul, 1) := by decide +kernel
theorem dX2_firstGap_33 : decode cX2_firstGap 33 = .ok (.ireturn, 1) := by decide +kernel
theorem dX2_firstGap_34 : decode cX2_firstGap 34 = .ok (.aload_n 0, 1) := by decide +kernel
theorem dX2_firstGap_35 : decode cX2_firstGap 35 = .ok (.getfield 18, 3) := by decide +kernel
theorem dX2_firstGap_38 : decode cX2_firstGap 38 = .ok (.iload_n 2, 1) := by decide +kernel
theorem dX2_firstGap_39 : decode cX2_firstGap 39 = .ok (.iconst 3, 1) := by decide +kernel
theorem dX2_firstGap_40 : decode cX2_firstGap 40 = .ok (.imul, 1) := by decide +kernel
theorem dX2_firstGap_41 : decode cX2_firstGap 41 = .ok (.iload_n 3, 1) := by decide +kernel
theorem dX2_firstGap_42 : decode cX2_firstGap 42 = .ok (.iadd, 1) := by decide +kernel
theorem dX2_firstGap_43 : decode cX2_firstGap 43 = .ok (.iaload, 1) := by decide +kernel
theorem dX2_firstGap_44 : decode cX2_firstGap 44 = .ok (.aload_n 0, 1) := by decide +kernel
theorem dX2_firstGap_45 : decode cX2_firstGap 45 = .ok (.getfield 15, 3) := by decide +kernel
theorem dX2_firstGap_48 : decode cX2_firstGap 48 = .ok (.iload_n 1, 1) := by decide +kernel
theorem dX2_firstGap_49 : decode cX2_firstGap 49 = .ok (.iconst 3, 1) := by decide +kernel
theorem dX2_firstGap_50 : decode cX2_firstGap 50 = .ok (.imul, 1) := by decide +kernel
theorem dX2_firstGap_51 : decode cX2_firstGap 51 = .ok (.iload_n 3, 1) := by decide +kernel
theorem dX2_firstGap_52 : decode cX2_firstGap 52 = .ok (.iadd, 1) := by decide +kernel
theorem dX2_firstGap_53 : decode cX2_firstGap 53 = .ok (.iaload, 1) := by decide +kernel
theorem dX2_firstGap_54 : decode cX2_firstGap 54 = .ok (.if_icmp .gt 9, 3) := by decide +kernel
theorem dX2_firstGap_57 : decode cX2_firstGap 57 = .ok (.iconst 2, 1) := by decide +kernel
theorem dX2_firstGap_58 : decode cX2_firstGap 58 = .ok (.iload_n 3, 1) := by decide +kernel
theorem dX2_firstGap_59 : decode cX2_firstGap 59 = .ok (.imul, 1) := by decide +kernel
theorem dX2_firstGap_60 : decode cX2_firstGap 60 = .ok (.iconst 1, 1) := by decide +kernel
theorem dX2_firstGap_61 : decode cX2_firstGap 61 = .ok (.iadd, 1) := by decide +kernel
theorem dX2_firstGap_62 : decode cX2_firstGap 62 = .ok (.ireturn, 1) := by decide +kernel
theorem dX2_firstGap_63 : decode cX2_firstGap 63 = .ok (.iinc 3 1, 3) := by decide +kernel
theorem dX2_firstGap_66 : decode cX2_firstGap 66 = .ok (.goto (-64), 3) := by decide +kernel
theorem dX2_firstGap_69 : decode cX2_firstGap 69 = .ok (.bipush (-9), 2) := by decide +kernel
theorem dX2_firstGap_71 : decode cX2_firstGap 71 = .ok (.ireturn, 1) := by decide +kernel
theorem dX2_heldArea_0 : decode cX2_heldArea 0 = .ok (.aload_n 0, 1) := by decide +kernel
theorem dX2_heldArea_1 : decode cX2_heldArea 1 = .ok (.getfield 15, 3) := by decide +kernel
theorem dX2_heldArea_4 : decode cX2_heldArea 4 = .ok (.iload_n 1, 1) := by decide +kernel
theorem dX2_heldArea_5 : decode cX2_heldArea 5 = .ok (.iconst 3, 1) := by decide +kernel
theorem dX2_heldArea_6 : decode cX2_heldArea 6 = .ok (.imul, 1) := by decide +kernel
theorem dX2_heldArea_7 : decode cX2_heldArea 7 = .ok (.iconst 2, 1) := by decide +kernel
theorem dX2_heldArea_8 : decode cX2_heldArea 8 = .ok (.iadd, 1) := by decide +kernel
theorem dX2_heldArea_9 : decode cX2_heldArea 9 = .ok (.iaload, 1) := by decide +kernel
theorem dX2_heldArea_10 : decode cX2_heldArea 10 = .ok (.istore_n 2, 1) := by decide +kernel
theorem dX2_heldArea_11 : decode cX2_heldArea 11 = .ok (.iload_n 2, 1) := by decide +kernel
theorem dX2_heldArea_12 : decode cX2_heldArea 12 = .ok (.ifCond .ne 17, 3) := by decide +kernel
theorem dX2_heldArea_15 : decode cX2_heldArea 15 = .ok (.aload_n 0, 1) := by decide +kernel
theorem dX2_heldArea_16 : decode cX2_heldArea 16 = .ok (.iload_n 1, 1) := by decide +kernel
theorem dX2_heldArea_17 : decode cX2_heldArea 17 = .ok (.iconst 0, 1) := by decide +kernel
theorem dX2_heldArea_18 : decode cX2_heldArea 18 = .ok (.invokevirtual 43, 3) := by decide +kernel
theorem dX2_heldArea_21 : decode cX2_heldArea 21 = .ok (.aload_n 0, 1) := by decide +kernel
theorem dX2_heldArea_22 : decode cX2_heldArea 22 = .ok (.iload_n 1, 1) := by decide +kernel
theorem dX2_heldArea_23 : decode cX2_heldArea 23 = .ok (.iconst 1, 1) := by decide +kernel
theorem dX2_heldArea_24 : decode cX2_heldArea 24 = .ok (.invokevirtual 43, 3) := by decide +kernel
theorem dX2_heldArea_27 : decode cX2_heldArea 27 = .ok (.imul, 1) := by decide +kernel
theorem dX2_heldArea_28 : decode cX2_heldArea 28 = .ok (.ireturn, 1) := by decide +kernel
theorem dX2_heldArea_29 : decode cX2_heldArea 29 = .ok (.iconst 0, 1) := by decide +kernel
theorem dX2_heldArea_30 : decode cX2_heldArea 30 = .ok (.istore_n 3, 1) := by decide +kernel
theorem dX2_heldArea_31 : decode cX2_heldArea 31 = .ok (.iconst 0, 1) := by decide +kernel
theorem dX2_heldArea_32 : decode cX2_heldArea 32 = .ok (.istore 4, 2) := by decide +kernel
theorem dX2_heldArea_34 : decode cX2_heldArea 34 = .ok (.iload 4, 2) := by decide +kernel
theorem dX2_heldArea_36 : decode cX2_heldArea 36 = .ok (.bipush 8, 2) := by decide +kernel
theorem dX2_heldArea_38 : decode cX2_heldArea 38 = .ok (.if_icmp .ge 53, 3) := by decide +kernel
theorem dX2_heldArea_41 : decode cX2_heldArea 41 = .ok (.aload_n 0, 1) := by decide +kernel
theorem dX2_heldArea_42 : decode cX2_heldArea 42 = .ok (.iload 4, 2) := by decide +kernel
theorem dX2_heldArea_44 : decode cX2_heldArea 44 = .ok (.invokevirtual 35, 3) := by decide +kernel
theorem dX2_heldArea_47 : decode cX2_heldArea 47 = .ok (.ifCond .eq 38, 3) := by decide +kernel
theorem dX2_heldArea_50 : decode cX2_heldArea 50 = .ok (.aload_n 0, 1) := by decide +kernel
theorem dX2_heldArea_51 : decode cX2_heldArea 51 = .ok (.getfield 18, 3) := by decide +kernel
theorem dX2_heldArea_54 : decode cX2_heldArea 54 = .ok (.iload 4, 2) := by decide +kernel
theorem dX2_heldArea_56 : decode cX2_heldArea 56 = .ok (.iconst 3, 1) := by decide +kernel
theorem dX2_heldArea_57 : decode cX2_heldArea 57 = .ok (.imul, 1) := by decide +kernel
theorem dX2_heldArea_58 : decode cX2_heldArea 58 = .ok (.iconst 2, 1) := by decide +kernel
theorem dX2_heldArea_59 : decode cX2_heldArea 59 = .ok (.iadd, 1) := by decide +kernel
theorem dX2_heldArea_60 : decode cX2_heldArea 60 = .ok (.iaload, 1) := by decide +kernel
theorem dX2_heldArea_61 : decode cX2_heldArea 61 = .ok (.iload_n 2, 1) := by decide +kernel
theorem dX2_heldArea_62 : decode cX2_heldArea 62 = .ok (.if_icmp .ne 23, 3) := by decide +kernel
theorem dX2_heldArea_65 : decode cX2_heldArea 65 = .ok (.iload_n 3, 1) := by decide +kernel
theorem dX2_heldArea_66 : decode cX2_heldArea 66 = .ok (.aload_n 0, 1) := by decide +kernel
theorem dX2_heldArea_67 : decode cX2_heldArea 67 = .ok (.iload_n 1, 1) := by decide +kernel
theorem dX2_heldArea_68 : decode cX2_heldArea 68 = .ok (.iload 4, 2) := by decide +kernel
theorem dX2_heldArea_70 : decode cX2_heldArea 70 = .ok (.iconst 0, 1) := by decide +kernel
theorem dX2_heldArea_71 : decode cX2_heldArea 71 = .ok (.invokevirtual 46, 3) := by decide +kernel
theorem dX2_heldArea_74 : decode cX2_heldArea 74 = .ok (.aload_n 0, 1) := by decide +kernel
theorem dX2_heldArea_75 : decode cX2_heldArea 75 = .ok (.iload_n 1, 1) := by decide +kernel
theorem dX2_heldArea_76 : decode cX2_heldArea 76 = .ok (.iload 4, 2) := by decide +kernel
theorem dX2_heldArea_78 : decode cX2_heldArea 78 = .ok (.iconst 1, 1) := by decide +kernel
theorem dX2_heldArea_79 : decode cX2_heldArea 79 = .ok (.invokevirtual 46, 3) := by decide +kernel
theorem dX2_heldArea_82 : decode cX2_heldArea 82 = .ok (.imul, 1) := by decide +kernel
theorem dX2_heldArea_83 : decode cX2_heldArea 83 = .ok (.iadd, 1) := by decide +kernel
theorem dX2_heldArea_84 : decode cX2_heldArea 84 = .ok (.istore_n 3, 1) := by decide +kernel
theorem dX2_heldArea_85 : decode cX2_heldArea 85 = .ok (.iinc 4 1, 3) := by decide +kernel
theorem dX2_heldArea_88 : decode cX2_heldArea 88 = .ok (.goto (-54), 3) := by decide +kernel
theorem dX2_heldArea_91 : decode cX2_heldArea 91 = .ok (.iload_n 3, 1) := by decide +kernel
theorem dX2_heldArea_92 : decode cX2_heldArea 92 = .ok (.ireturn, 1) := by decide +kernel
theorem dX2_commonLength_0 : decode cX2_commonLength 0 = .ok (.aload_n 0, 1) := by decide +kernel
theorem dX2_commonLength_1 : decode cX2_commonLength 1 = .ok (.getfield 15, 3) := by decide +kernel
theorem dX2_commonLength_4 : decode cX2_commonLength 4 = .ok (.iload_n 1, 1) := by decide +kernel
theorem dX2_commonLength_5 : decode cX2_commonLength 5 = .ok (.iconst 3, 1) := by decide +kernel
theorem dX2_commonLength_6 : decode cX2_commonLength 6 = .ok (.imul, 1) := by decide +kernel
theorem dX2_commonLength_7 : decode cX2_commonLength 7 = .ok (.iload_n 3, 1) := by decide +kernel
theorem dX2_commonLength_8 : decode cX2_commonLength 8 = .ok (.iadd, 1) := by decide +kernel
theorem dX2_commonLength_9 : decode cX2_commonLength 9 = .ok (.iaload, 1) := by decide +kernel
theorem dX2_commonLength_10 : decode cX2_commonLength 10 = .ok (.aload_n 0, 1) := by decide +kernel
theorem dX2_commonLength_11 : decode cX2_commonLength 11 = .ok (.getfield 15, 3) := by decide +kernel
theorem dX2_commonLength_14 : decode cX2_commonLength 14 = .ok (.iload_n 2, 1) := by decide +kernel
theorem dX2_commonLength_15 : decode cX2_commonLength 15 = .ok (.iconst 3, 1) := by decide +kernel
theorem dX2_commonLength_16 : decode cX2_commonLength 16 = .ok (.imul, 1) := by decide +kernel
theorem dX2_commonLength_17 : decode cX2_commonLength 17 = .ok (.iload_n 3, 1) := by decide +kernel
theorem dX2_commonLength_18 : decode cX2_commonLength 18 = .ok (.iadd, 1) := by decide +kernel
theorem dX2_commonLength_19 : decode cX2_commonLength 19 = .ok (.iaload, 1) := by decide +kernel
theorem dX2_commonLength_20 : decode cX2_commonLength 20 = .ok (.invokestatic 49, 3) := by decide +kernel
theorem dX2_commonLength_23 : decode cX2_commonLength 23 = .ok (.istore 4, 2) := by decide +kernel
theorem dX2_commonLength_25 : decode cX2_commonLength 25 = .ok (.aload_n 0, 1) := by decide +kernel
theorem dX2_commonLength_26 : decode cX2_commonLength 26 = .ok (.getfield 18, 3) := by decide +kernel
theorem dX2_commonLength_29 : decode cX2_commonLength 29 = .ok (.iload_n 1, 1) := by decide +kernel
theorem dX2_commonLength_30 : decode cX2_commonLength 30 = .ok (.iconst 3, 1) := by decide +kernel
theorem dX2_commonLength_31 : decode cX2_commonLength 31 = .ok (.imul, 1) := by decide +kernel
theorem dX2_commonLength_32 : decode cX2_commonLength 32 = .ok (.iload_n 3, 1) := by decide +kernel
theorem dX2_commonLength_33 : decode cX2_commonLength 33 = .ok (.iadd, 1) := by decide +kernel
theorem dX2_commonLength_34 : decode cX2_commonLength 34 = .ok (.iaload, 1) := by decide +kernel
theorem dX2_commonLength_35 : decode cX2_commonLength 35 = .ok (.aload_n 0, 1) := by decide +kernel
theorem dX2_commonLength_36 : decode cX2_commonLength 36 = .ok (.getfield 18, 3) := by decide +kernel
theorem dX2_commonLength_39 : decode cX2_commonLength 39 = .ok (.iload_n 2, 1) := by decide +kernel
theorem dX2_commonLength_40 : decode cX2_commonLength 40 = .ok (.iconst 3, 1) := by decide +kernel
theorem dX2_commonLength_41 : decode cX2_commonLength 41 = .ok (.imul, 1) := by decide +kernel
theorem dX2_commonLength_42 : decode cX2_commonLength 42 = .ok (.iload_n 3, 1) := by decide +kernel
theorem dX2_commonLength_43 : decode cX2_commonLength 43 = .ok (.iadd, 1) := by decide +kernel
theorem dX2_commonLength_44 : decode cX2_commonLength 44 = .ok (.iaload, 1) := by decide +kernel
theorem dX2_commonLength_45 : decode cX2_commonLength 45 = .ok (.invokestatic 54, 3) := by decide +kernel
theorem dX2_commonLength_48 : decode cX2_commonLength 48 = .ok (.istore 5, 2) := by decide +kernel
theorem dX2_commonLength_50 : decode cX2_commonLength 50 = .ok (.iconst 0, 1) := by decide +kernel
theorem dX2_commonLength_51 : decode cX2_commonLength 51 = .ok (.iload 5, 2) := by decide +kernel
theorem dX2_commonLength_53 : decode cX2_commonLength 53 = .ok (.iload 4, 2) := by decide +kernel
theorem dX2_commonLength_55 : decode cX2_commonLength 55 = .ok (.isub, 1) := by decide +kernel
theorem dX2_commonLength_56 : decode cX2_commonLength 56 = .ok (.invokestatic 49, 3) := by decide +kernel
theorem dX2_commonLength_59 : decode cX2_commonLength 59 = .ok (.ireturn, 1) := by decide +kernel
theorem dX2_weightSum_0 : decode cX2_weightSum 0 = .ok (.iconst 0, 1) := by decide +kernel
theorem dX2_weightSum_1 : decode cX2_weightSum 1 = .ok (.istore_n 1, 1) := by decide +kernel
theorem dX2_weightSum_2 : decode cX2_weightSum 2 = .ok (.iconst 0, 1) := by decide +kernel
theorem dX2_weightSum_3 : decode cX2_weightSum 3 = .ok (.istore_n 2, 1) := by decide +kernel
theorem dX2_weightSum_4 : decode cX2_weightSum 4 = .ok (.iload_n 2, 1) := by decide +kernel
theorem dX2_weightSum_5 : decode cX2_weightSum 5 = .ok (.bipush 8, 2) := by decide +kernel
theorem dX2_weightSum_7 : decode cX2_weightSum 7 = .ok (.if_icmp .ge 29, 3) := by decide +kernel
theorem dX2_weightSum_10 : decode cX2_weightSum 10 = .ok (.aload_n 0, 1) := by decide +kernel
theorem dX2_weightSum_11 : decode cX2_weightSum 11 = .ok (.iload_n 2, 1) := by decide +kernel
theorem dX2_weightSum_12 : decode cX2_weightSum 12 = .ok (.invokevirtual 35, 3) := by decide +kernel
theorem dX2_weightSum_15 : decode cX2_weightSum 15 = .ok (.ifCond .eq 15, 3) := by decide +kernel
theorem dX2_weightSum_18 : decode cX2_weightSum 18 = .ok (.iload_n 1, 1) := by decide +kernel
theorem dX2_weightSum_19 : decode cX2_weightSum 19 = .ok (.aload_n 0, 1) := by decide +kernel
theorem dX2_weightSum_20 : decode cX2_weightSum 20 = .ok (.getfield 21, 3) := by decide +kernel
theorem dX2_weightSum_23 : decode cX2_weightSum 23 = .ok (.getfield 57, 3) := by decide +kernel
theorem dX2_weightSum_26 : decode cX2_weightSum 26 = .ok (.iload_n 2, 1) := by decide +kernel
theorem dX2_weightSum_27 : decode cX2_weightSum 27 = .ok (.iaload, 1) := by decide +kernel
theorem dX2_weightSum_28 : decode cX2_weightSum 28 = .ok (.iadd, 1) := by decide +kernel
theorem dX2_weightSum_29 : decode cX2_weightSum 29 = .ok (.istore_n 1, 1) := by decide +kernel
theorem dX2_weightSum_30 : decode cX2_weightSum 30 = .ok (.iinc 2 1, 3) := by decide +kernel
theorem dX2_weightSum_33 : decode cX2_weightSum 33 = .ok (.goto (-29), 3) := by decide +kernel
theorem dX2_weightSum_36 : decode cX2_weightSum 36 = .ok (.iload_n 1, 1) := by decide +kernel
theorem dX2_weightSum_37 : decode cX2_weightSum 37 = .ok (.ireturn, 1) := by decide +kernel
theorem dX2_doubledMoment_0 : decode cX2_doubledMoment 0 = .ok (.iconst 0, 1) := by decide +kernel
theorem dX2_doubledMoment_1 : decode cX2_doubledMoment 1 = .ok (.istore_n 2, 1) := by decide +kernel
theorem dX2_doubledMoment_2 : decode cX2_doubledMoment 2 = .ok (.iconst 0, 1) := by decide +kernel
theorem dX2_doubledMoment_3 : decode cX2_doubledMoment 3 = .ok (.istore_n 3, 1) := by decide +kernel
theorem dX2_doubledMoment_4 : decode cX2_doubledMoment 4 = .ok (.iload_n 3, 1) := by decide +kernel
theorem dX2_doubledMoment_5 : decode cX2_doubledMoment 5 = .ok (.bipush 8, 2) := by decide +kernel
theorem dX2_doubledMoment_7 : decode cX2_doubledMoment 7 = .ok (.if_icmp .ge 52, 3) := by decide +kernel
theorem dX2_doubledMoment_10 : decode cX2_doubledMoment 10 = .ok (.aload_n 0, 1) := by decide +kernel
theorem dX2_doubledMoment_11 : decode cX2_doubledMoment 11 = .ok (.iload_n 3, 1) := by decide +kernel
theorem dX2_doubledMoment_12 : decode cX2_doubledMoment 12 = .ok (.invokevirtual 35, 3) := by decide +kernel
theorem dX2_doubledMoment_15 : decode cX2_doubledMoment 15 = .ok (.ifCond .eq 38, 3) := by decide +kernel
theorem dX2_doubledMoment_18 : decode cX2_doubledMoment 18 = .ok (.iload_n 3, 1) := by decide +kernel
theorem dX2_doubledMoment_19 : decode cX2_doubledMoment 19 = .ok (.iconst 3, 1) := by decide +kernel
theorem dX2_doubledMoment_20 : decode cX2_doubledMoment 20 = .ok (.imul, 1) := by decide +kernel
theorem dX2_doubledMoment_21 : decode cX2_doubledMoment 21 = .ok (.iload_n 1, 1) := by decide +kernel
theorem dX2_doubledMoment_22 : decode cX2_doubledMoment 22 = .ok (.iadd, 1) := by decide +kernel
theorem dX2_doubledMoment_23 : decode cX2_doubledMoment 23 = .ok (.istore 4, 2) := by decide +kernel
theorem dX2_doubledMoment_25 : decode cX2_doubledMoment 25 = .ok (.iload_n 2, 1) := by decide +kernel
theorem dX2_doubledMoment_26 : decode cX2_doubledMoment 26 = .ok (.aload_n 0, 1) := by decide +kernel
theorem dX2_doubledMoment_27 : decode cX2_doubledMoment 27 = .ok (.getfield 21, 3) := by decide +kernel
theorem dX2_doubledMoment_30 : decode cX2_doubledMoment 30 = .ok (.getfield 57, 3) := by decide +kernel
theorem dX2_doubledMoment_33 : decode cX2_doubledMoment 33 = .ok (.iload_n 3, 1) := by decide +kernel
theorem dX2_doubledMoment_34 : decode cX2_doubledMoment 34 = .ok (.iaload, 1) := by decide +kernel
theorem dX2_doubledMoment_35 : decode cX2_doubledMoment 35 = .ok (.aload_n 0, 1) := by decide +kernel
theorem dX2_doubledMoment_36 : decode cX2_doubledMoment 36 = .ok (.getfield 15, 3) := by decide +kernel
theorem dX2_doubledMoment_39 : decode cX2_doubledMoment 39 = .ok (.iload 4, 2) := by decide +kernel
theorem dX2_doubledMoment_41 : decode cX2_doubledMoment 41 = .ok (.iaload, 1) := by decide +kernel
theorem dX2_doubledMoment_42 : decode cX2_doubledMoment 42 = .ok (.aload_n 0, 1) := by decide +kernel
theorem dX2_doubledMoment_43 : decode cX2_doubledMoment 43 = .ok (.getfield 18, 3) := by decide +kernel
theorem dX2_doubledMoment_46 : decode cX2_doubledMoment 46 = .ok (.iload 4, 2) := by decide +kernel
theorem dX2_doubledMoment_48 : decode cX2_doubledMoment 48 = .ok (.iaload, 1) := by decide +kernel
theorem dX2_doubledMoment_49 : decode cX2_doubledMoment 49 = .ok (.iadd, 1) := by decide +kernel
theorem dX2_doubledMoment_50 : decode cX2_doubledMoment 50 = .ok (.imul, 1) := by decide +kernel
theorem dX2_doubledMoment_51 : decode cX2_doubledMoment 51 = .ok (.iadd, 1) := by decide +kernel
theorem dX2_doubledMoment_52 : decode cX2_doubledMoment 52 = .ok (.istore_n 2, 1) := by decide +kernel
theorem dX2_doubledMoment_53 : decode cX2_doubledMoment 53 = .ok (.iinc 3 1, 3) := by decide +kernel
theorem dX2_doubledMoment_56 : decode cX2_doubledMoment 56 = .ok (.goto (-52), 3) := by decide +kernel
theorem dX2_doubledMoment_59 : decode cX2_doubledMoment 59 = .ok (.iload_n 2, 1) := by decide +kernel
theorem dX2_doubledMoment_60 : decode cX2_doubledMoment 60 = .ok (.ireturn, 1) := by decide +kernel
end
section
/-! sums over rows of numbers -/
def isum (f : Int → Int) : Int → Nat → Int
  | _, 0 => 0
  | i, n + 1 => f i + isum f (i + 1) n
theorem isum_step (f : Int → Int) {i hi : Int} (h : i < hi) : isum f i (hi - i).toNat = f i + isum f (i + 1) (hi - (i + 1)).toNat := by
  have e : (hi - i).toNat = (hi - (i + 1)).toNat + 1 := by omega
  rw [e]; rfl
theorem isum_end (f : Int → Int) {i hi : Int} (h : hi ≤ i) : isum f i (hi - i).toNat = 0 := by
  have e : (hi - i).toNat = 0 := by omega
  rw [e]; rfl
theorem isum_congr {f g : Int → Int} : ∀ (n : Nat) (i : Int), (∀ j, i ≤ j → j < i + n → f j = g j) → isum f i n = isum g i n
  | 0, _, _ => rfl
  | n + 1, i, h => by
    show f i + isum f (i + 1) n = g i + isum g (i + 1) n
    rw [h i (by omega) (by omega), isum_congr n (i + 1) (fun j h1 h2 => h j (by omega) (by omega))]
theorem isum_in {f : Int → Int} {B : Int} : ∀ (n : Nat) (i : Int), (∀ j, i ≤ j → j < i + n → 0 ≤ f j ∧ f j ≤ B) → 0 ≤ isum f i n ∧ isum f i n ≤ n * B
  | 0, _, _ => by simp [isum]
  | n + 1, i, h => by
    have h1 := h i (by omega) (by omega)
    have h2 := isum_in n (i + 1) (fun j a b => h j (by omega) (by omega))
    have e : ((n + 1 : Nat) : Int) * B = n * B + B := by rw [Int.natCast_add, Int.add_mul]; simp
    show 0 ≤ f i + isum f (i + 1) n ∧ f i + isum f (i + 1) n ≤ _
    rw [e]; omega
/-- a bit of a set -/
abbrev zbit (m b : Int) : Prop := m / 2 ^ b.toNat % 2 = 1
/-! what is laid, as the class holds it: who (bits), begins, ends -/
def lOK (S : jMem) : Prop := (0 ≤ S 18 4 ∧ S 18 4 < 256) ∧ (∀ i, 0 ≤ i → i < 24 → 0 ≤ S 20 i ∧ S 20 i ≤ 20) ∧ (∀ i, 0 ≤ i → i < 24 → 0 ≤ S 21 i ∧ S 21 i ≤ 20)
def pgap (bg en : Int → Int) (a b : Int) : Int :=
  if en (a * 3 + 0) ≤ bg (b * 3 + 0) then 0 else if en (b * 3 + 0) ≤ bg (a * 3 + 0) then 1 else if en (a * 3 + 1) ≤ bg (b * 3 + 1) then 2 else if en (b * 3 + 1) ≤ bg (a * 3 + 1) then 3 else if en (a * 3 + 2) ≤ bg (b * 3 + 2) then 4 else if en (b * 3 + 2) ≤ bg (a * 3 + 2) then 5 else -9
theorem pgap_in (bg en : Int → Int) (a b : Int) : -9 ≤ pgap bg en a b ∧ pgap bg en a b ≤ 5 := by
  unfold pgap
  repeat' split
  all_goals omega
def pcom (bg en : Int → Int) (a b x : Int) : Int := max 0 (min (en (a * 3 + x)) (en (b * 3 + x)) - max (bg (a * 3 + x)) (bg (b * 3 + x)))
noncomputable def povl (m : Int) (bg en : Int → Int) (a b : Int) : Int := bb (zbit m a ∧ zbit m b ∧ pgap bg en a b = -9)
noncomputable def povs (m : Int) (bg en : Int → Int) : Int := isum (fun a => isum (povl m bg en a) (a + 1) (8 - (a + 1)).toNat) 0 (8 - 0 : Int).toNat
noncomputable def pheld (m : Int) (bg en : Int → Int) (b o : Int) : Int := bb (zbit m o ∧ en (o * 3 + 2) = bg (b * 3 + 2)) * (pcom bg en b o 0 * pcom bg en b o 1)
noncomputable def pwsum (m : Int) (wt : Int → Int) : Int := isum (fun b => bb (zbit m b) * wt b) 0 (8 - 0 : Int).toNat
noncomputable def pmom (m : Int) (wt bg en : Int → Int) (x : Int) : Int := isum (fun b => bb (zbit m b) * (wt b * (bg (b * 3 + x) + en (b * 3 + x)))) 0 (8 - 0 : Int).toNat
theorem bb_mul_t {p : Prop} (h : p) (x : Int) : bb p * x = x := by rw [bb_t h, Int.one_mul]
theorem bb_mul_f {p : Prop} (h : ¬ p) (x : Int) : bb p * x = 0 := by rw [bb_f h, Int.zero_mul]
end
section
theorem c_holds {G : jG} (hG : cG G) (S : jMem) (b : Int) (hl : lOK S) (hb : 0 ≤ b ∧ b < 8) : jM G yX2_holds cX2_holds 2 (some .boolean) 0 0 [.ref (jad G 18), .int (iI (b))] S (jPi (fun v S' => bb (zbit (S 18 4) b) = v ∧ S = S')) := by
  refine jM.of (by decide) (Nat.le_of_ble_eq_true rfl) (fun E C R => ?_)
  show J E G 0 [(0, .ref (jad G 18)), (1, .int (iI (b)))] [] _
  have h4 := hl.1
  have h5 := zdiv_in h4.1 b.toNat
  refine J_aload_n C 0 dX2_holds_0 rfl ?_
  refine g_X2_25 hG C dX2_holds_1 ?_
  refine J_iload_n C 1 dX2_holds_4 rfl ?_
  refine J_ishr C dX2_holds_5 (by omega) (by omega) (by omega) ?_
  refine J_iconst C dX2_holds_6 ?_
  refine J_iand C (((S 18 4) / 2 ^ (b).toNat) % 2) dX2_holds_7 (iI_and1 _ (by omega)) ?_
  refine J_iconst C dX2_holds_8 ?_
  refine J_icmp_ne C 16 dX2_holds_9 (by decide) (by omega) (by omega) (fun h1 => ?_) (fun h1 => ?_)
  · refine J_iconst C dX2_holds_16 ?_
    exact J_zret R C dX2_holds_17 (by first | exact Or.inl rfl | exact Or.inr rfl | omega) (jPi.mk ⟨by first | exact bb_t (by assumption) | exact bb_f (by assumption), rfl⟩)
  · refine J_iconst C dX2_holds_12 ?_
    refine J_goto C 17 dX2_holds_13 (by decide) ?_
    exact J_zret R C dX2_holds_17 (by first | exact Or.inl rfl | exact Or.inr rfl | omega) (jPi.mk ⟨by first | exact bb_t (by assumption) | exact bb_f (by assumption), rfl⟩)
theorem c_extentOf {G : jG} (hG : cG G) (S : jMem) (b a : Int) (hb : 0 ≤ b ∧ b < 8) (ha : 0 ≤ a ∧ a < 3) : jM G yX2_extentOf cX2_extentOf 3 (some .int) 0 0 [.ref (jad G 18), .int (iI (b)), .int (iI (a))] S (jPi (fun v S' => S 21 (b * 3 + a) - S 20 (b * 3 + a) = v ∧ S = S')) := by
  refine jM.of (by decide) (Nat.le_of_ble_eq_true rfl) (fun E C R => ?_)
  show J E G 0 [(0, .ref (jad G 18)), (1, .int (iI (b))), (2, .int (iI (a)))] [] _
  refine J_aload_n C 0 dX2_extentOf_0 rfl ?_
  refine g_X2_18 hG C dX2_extentOf_1 ?_
  refine J_iload_n C 1 dX2_extentOf_4 rfl ?_
  refine J_iconst C dX2_extentOf_5 ?_
  refine J_imul C dX2_extentOf_6 ?_
  refine J_iload_n C 2 dX2_extentOf_7 rfl ?_
  refine J_iadd C dX2_extentOf_8 ?_
  refine cald hG C 21 24 (by decide) dX2_extentOf_9 (by omega) (by omega) ?_
  refine J_aload_n C 0 dX2_extentOf_10 rfl ?_
  refine g_X2_15 hG C dX2_extentOf_11 ?_
  refine J_iload_n C 1 dX2_extentOf_14 rfl ?_
  refine J_iconst C dX2_extentOf_15 ?_
  refine J_imul C dX2_extentOf_16 ?_
  refine J_iload_n C 2 dX2_extentOf_17 rfl ?_
  refine J_iadd C dX2_extentOf_18 ?_
  refine cald hG C 20 24 (by decide) dX2_extentOf_19 (by omega) (by omega) ?_
  refine J_isub C dX2_extentOf_20 ?_
  exact J_iret R C dX2_extentOf_21 (jPi.mk ⟨by rfl, rfl⟩)
theorem c_firstGap {G : jG} (hG : cG G) (S : jMem) (a b : Int) (hl : lOK S) (ha : 0 ≤ a ∧ a < 8) (hb : 0 ≤ b ∧ b < 8) : jM G yX2_firstGap cX2_firstGap 4 (some .int) 0 0 [.ref (jad G 18), .int (iI (a)), .int (iI (b))] S (jPi (fun v S' => pgap (S 20) (S 21) a b = v ∧ S = S')) := by
  refine jM.of (by decide) (Nat.le_of_ble_eq_true rfl) (fun E C R => ?_)
  show J E G 0 [(0, .ref (jad G 18)), (1, .int (iI (a))), (2, .int (iI (b)))] [] _
  refine J_iconst C dX2_firstGap_0 ?_
  refine J_istore_n (lv' := [(3, .int (iI (0))), (0, .ref (jad G 18)), (1, .int (iI (a))), (2, .int (iI (b)))]) C dX2_firstGap_1 (by decide) rfl ?_
  refine J_iload_n C 0 dX2_firstGap_2 rfl ?_
  refine J_iconst C dX2_firstGap_3 ?_
  refine J_icmp_ge C 69 dX2_firstGap_4 (by decide) (by omega) (by omega) (fun h => absurd h (by omega)) (fun _ => ?_)
  refine J_aload_n C 1 dX2_firstGap_7 rfl ?_
  refine g_X2_18 hG C dX2_firstGap_8 ?_
  refine J_iload_n C 2 dX2_firstGap_11 rfl ?_
  refine J_iconst C dX2_firstGap_12 ?_
  refine J_imul C dX2_firstGap_13 ?_
  refine J_iload_n C 0 dX2_firstGap_14 rfl ?_
  refine J_iadd C dX2_firstGap_15 ?_
  refine cald hG C 21 24 (by decide) dX2_firstGap_16 (by omega) (by omega) ?_
  have m2 := hl.2.2 (((a) * (3)) + (0)) (by omega) (by omega)
  refine J_aload_n C 1 dX2_firstGap_17 rfl ?_
  refine g_X2_15 hG C dX2_firstGap_18 ?_
  refine J_iload_n C 3 dX2_firstGap_21 rfl ?_
  refine J_iconst C dX2_firstGap_22 ?_
  refine J_imul C dX2_firstGap_23 ?_
  refine J_iload_n C 0 dX2_firstGap_24 rfl ?_
  refine J_iadd C dX2_firstGap_25 ?_
  refine cald hG C 20 24 (by decide) dX2_firstGap_26 (by omega) (by omega) ?_
  have m3 := hl.2.1 (((b) * (3)) + (0)) (by omega) (by omega)
  refine J_icmp_gt C 34 dX2_firstGap_27 (by decide) (by omega) (by omega) (fun h4 => ?_) (fun h4 => ?_)
  · refine J_aload_n C 1 dX2_firstGap_34 rfl ?_
    refine g_X2_18 hG C dX2_firstGap_35 ?_
    refine J_iload_n C 3 dX2_firstGap_38 rfl ?_
    refine J_iconst C dX2_firstGap_39 ?_
    refine J_imul C dX2_firstGap_40 ?_
    refine J_iload_n C 0 dX2_firstGap_41 rfl ?_
    refine J_iadd C dX2_firstGap_42 ?_
    refine cald hG C 21 24 (by decide) dX2_firstGap_43 (by omega) (by omega) ?_
    have m5 := hl.2.2 (((b) * (3)) + (0)) (by omega) (by omega)
    refine J_aload_n C 1 dX2_firstGap_44 rfl ?_
    refine g_X2_15 hG C dX2_firstGap_45 ?_
    refine J_iload_n C 2 dX2_firstGap_48 rfl ?_
    refine J_iconst C dX2_firstGap_49 ?_
    refine J_imul C dX2_firstGap_50 ?_
    refine J_iload_n C 0 dX2_firstGap_51 rfl ?_
    refine J_iadd C dX2_firstGap_52 ?_
    refine cald hG C 20 24 (by decide) dX2_firstGap_53 (by omega) (by omega) ?_
    have m6 := hl.2.1 (((a) * (3)) + (0)) (by omega) (by omega)
    refine J_icmp_gt C 63 dX2_firstGap_54 (by decide) (by omega) (by omega) (fun h7 => ?_) (fun h7 => ?_)
    · refine J_iinc (lv' := [(3, .int (iI (1))), (0, .ref (jad G 18)), (1, .int (iI (a))), (2, .int (iI (b)))]) C 0 dX2_firstGap_63 rfl (by decide) rfl ?_
      refine J_goto C 2 dX2_firstGap_66 (by decide) ?_
      refine J_iload_n C 0 dX2_firstGap_2 rfl ?_
      refine J_iconst C dX2_firstGap_3 ?_
      refine J_icmp_ge C 69 dX2_firstGap_4 (by decide) (by omega) (by omega) (fun h => absurd h (by omega)) (fun _ => ?_)
      refine J_aload_n C 1 dX2_firstGap_7 rfl ?_
      refine g_X2_18 hG C dX2_firstGap_8 ?_
      refine J_iload_n C 2 dX2_firstGap_11 rfl ?_
      refine J_iconst C dX2_firstGap_12 ?_
      refine J_imul C dX2_firstGap_13 ?_
      refine J_iload_n C 0 dX2_firstGap_14 rfl ?_
      refine J_iadd C dX2_firstGap_15 ?_
      refine cald hG C 21 24 (by decide) dX2_firstGap_16 (by omega) (by omega) ?_
      have m9 := hl.2.2 (((a) * (3)) + (1)) (by omega) (by omega)
      refine J_aload_n C 1 dX2_firstGap_17 rfl ?_
      refine g_X2_15 hG C dX2_firstGap_18 ?_
      refine J_iload_n C 3 dX2_firstGap_21 rfl ?_
      refine J_iconst C dX2_firstGap_22 ?_
      refine J_imul C dX2_firstGap_23 ?_
      refine J_iload_n C 0 dX2_firstGap_24 rfl ?_
      refine J_iadd C dX2_firstGap_25 ?_
      refine cald hG C 20 24 (by decide) dX2_firstGap_26 (by omega) (by omega) ?_
      have m10 := hl.2.1 (((b) * (3)) + (1)) (by omega) (by omega)
      refine J_icmp_gt C 34 dX2_firstGap_27 (by decide) (by omega) (by omega) (fun h11 => ?_) (fun h11 => ?_)
      · refine J_aload_n C 1 dX2_firstGap_34 rfl ?_
        refine g_X2_18 hG C dX2_firstGap_35 ?_
        refine J_iload_n C 3 dX2_firstGap_38 rfl ?_
        refine J_iconst C dX2_firstGap_39 ?_
        refine J_imul C dX2_firstGap_40 ?_
        refine J_iload_n C 0 dX2_firstGap_41 rfl ?_
        refine J_iadd C dX2_firstGap_42 ?_
        refine cald hG C 21 24 (by decide) dX2_firstGap_43 (by omega) (by omega) ?_
        have m12 := hl.2.2 (((b) * (3)) + (1)) (by omega) (by omega)
        refine J_aload_n C 1 dX2_firstGap_44 rfl ?_
        refine g_X2_15 hG C dX2_firstGap_45 ?_
        refine J_iload_n C 2 dX2_firstGap_48 rfl ?_
        refine J_iconst C dX2_firstGap_49 ?_
        refine J_imul C dX2_firstGap_50 ?_
        refine J_iload_n C 0 dX2_firstGap_51 rfl ?_
        refine J_iadd C dX2_firstGap_52 ?_
        refine cald hG C 20 24 (by decide) dX2_firstGap_53 (by omega) (by omega) ?_
        have m13 := hl.2.1 (((a) * (3)) + (1)) (by omega) (by omega)
        refine J_icmp_gt C 63 dX2_firstGap_54 (by decide) (by omega) (by omega) (fun h14 => ?_) (fun h14 => ?_)
        · refine J_iinc (lv' := [(3, .int (iI (2))), (0, .ref (jad G 18)), (1, .int (iI (a))), (2, .int (iI (b)))]) C 0 dX2_firstGap_63 rfl (by decide) rfl ?_
          refine J_goto C 2 dX2_firstGap_66 (by decide) ?_
          refine J_iload_n C 0 dX2_firstGap_2 rfl ?_
          refine J_iconst C dX2_firstGap_3 ?_
          refine J_icmp_ge C 69 dX2_firstGap_4 (by decide) (by omega) (by omega) (fun h => absurd h (by omega)) (fun _ => ?_)
          refine J_aload_n C 1 dX2_firstGap_7 rfl ?_
          refine g_X2_18 hG C dX2_firstGap_8 ?_
          refine J_iload_n C 2 dX2_firstGap_11 rfl ?_
          refine J_iconst C dX2_firstGap_12 ?_
          refine J_imul C dX2_firstGap_13 ?_
          refine J_iload_n C 0 dX2_firstGap_14 rfl ?_
          refine J_iadd C dX2_firstGap_15 ?_
          refine cald hG C 21 24 (by decide) dX2_firstGap_16 (by omega) (by omega) ?_
          have m16 := hl.2.2 (((a) * (3)) + (2)) (by omega) (by omega)
          refine J_aload_n C 1 dX2_firstGap_17 rfl ?_
          refine g_X2_15 hG C dX2_firstGap_18 ?_
          refine J_iload_n C 3 dX2_firstGap_21 rfl ?_
          refine J_iconst C dX2_firstGap_22 ?_
          refine J_imul C dX2_firstGap_23 ?_
          refine J_iload_n C 0 dX2_firstGap_24 rfl ?_
          refine J_iadd C dX2_firstGap_25 ?_
          refine cald hG C 20 24 (by decide) dX2_firstGap_26 (by omega) (by omega) ?_
          have m17 := hl.2.1 (((b) * (3)) + (2)) (by omega) (by omega)
          refine J_icmp_gt C 34 dX2_firstGap_27 (by decide) (by omega) (by omega) (fun h18 => ?_) (fun h18 => ?_)
          · refine J_aload_n C 1 dX2_firstGap_34 rfl ?_
            refine g_X2_18 hG C dX2_firstGap_35 ?_
            refine J_iload_n C 3 dX2_firstGap_38 rfl ?_
            refine J_iconst C dX2_firstGap_39 ?_
            refine J_imul C dX2_firstGap_40 ?_
            refine J_iload_n C 0 dX2_firstGap_41 rfl ?_
            refine J_iadd C dX2_firstGap_42 ?_
            refine cald hG C 21 24 (by decide) dX2_firstGap_43 (by omega) (by omega) ?_
            have m19 := hl.2.2 (((b) * (3)) + (2)) (by omega) (by omega)
            refine J_aload_n C 1 dX2_firstGap_44 rfl ?_
            refine g_X2_15 hG C dX2_firstGap_45 ?_
            refine J_iload_n C 2 dX2_firstGap_48 rfl ?_
            refine J_iconst C dX2_firstGap_49 ?_
            refine J_imul C dX2_firstGap_50 ?_
            refine J_iload_n C 0 dX2_firstGap_51 rfl ?_
            refine J_iadd C dX2_firstGap_52 ?_
            refine cald hG C 20 24 (by decide) dX2_firstGap_53 (by omega) (by omega) ?_
            have m20 := hl.2.1 (((a) * (3)) + (2)) (by omega) (by omega)
            refine J_icmp_gt C 63 dX2_firstGap_54 (by decide) (by omega) (by omega) (fun h21 => ?_) (fun h21 => ?_)
            · refine J_iinc (lv' := [(3, .int (iI (3))), (0, .ref (jad G 18)), (1, .int (iI (a))), (2, .int (iI (b)))]) C 0 dX2_firstGap_63 rfl (by decide) rfl ?_
              refine J_goto C 2 dX2_firstGap_66 (by decide) ?_
              refine J_iload_n C 0 dX2_firstGap_2 rfl ?_
              refine J_iconst C dX2_firstGap_3 ?_
              refine J_icmp_ge C 69 dX2_firstGap_4 (by decide) (by omega) (by omega) (fun _ => ?_) (fun h => absurd h (by omega))
              refine J_bipush C dX2_firstGap_69 (by decide) ?_
              exact J_iret R C dX2_firstGap_71 (jPi.mk ⟨by unfold pgap; (repeat first | rw [if_pos (by omega)] | rw [if_neg (by omega)]); try omega, rfl⟩)
            · refine J_iconst C dX2_firstGap_57 ?_
              refine J_iload_n C 0 dX2_firstGap_58 rfl ?_
              refine J_imul C dX2_firstGap_59 ?_
              refine J_iconst C dX2_firstGap_60 ?_
              refine J_iadd C dX2_firstGap_61 ?_
              exact J_iret R C dX2_firstGap_62 (jPi.mk ⟨by unfold pgap; (repeat first | rw [if_pos (by omega)] | rw [if_neg (by omega)]); try omega, rfl⟩)
          · refine J_iconst C dX2_firstGap_30 ?_
            refine J_iload_n C 0 dX2_firstGap_31 rfl ?_
            refine J_imul C dX2_firstGap_32 ?_
            exact J_iret R C dX2_firstGap_33 (jPi.mk ⟨by unfold pgap; (repeat first | rw [if_pos (by omega)] | rw [if_neg (by omega)]); try omega, rfl⟩)
        · refine J_iconst C dX2_firstGap_57 ?_
          refine J_iload_n C 0 dX2_firstGap_58 rfl ?_
          refine J_imul C dX2_firstGap_59 ?_
          refine J_iconst C dX2_firstGap_60 ?_
          refine J_iadd C dX2_firstGap_61 ?_
          exact J_iret R C dX2_firstGap_62 (jPi.mk ⟨by unfold pgap; (repeat first | rw [if_pos (by omega)] | rw [if_neg (by omega)]); try omega, rfl⟩)
      · refine J_iconst C dX2_firstGap_30 ?_
        refine J_iload_n C 0 dX2_firstGap_31 rfl ?_
        refine J_imul C dX2_firstGap_32 ?_
        exact J_iret R C dX2_firstGap_33 (jPi.mk ⟨by unfold pgap; (repeat first | rw [if_pos (by omega)] | rw [if_neg (by omega)]); try omega, rfl⟩)
    · refine J_iconst C dX2_firstGap_57 ?_
      refine J_iload_n C 0 dX2_firstGap_58 rfl ?_
      refine J_imul C dX2_firstGap_59 ?_
      refine J_iconst C dX2_firstGap_60 ?_
      refine J_iadd C dX2_firstGap_61 ?_
      exact J_iret R C dX2_firstGap_62 (jPi.mk ⟨by unfold pgap; (repeat first | rw [if_pos (by omega)] | rw [if_neg (by omega)]); try omega, rfl⟩)
  · refine J_iconst C dX2_firstGap_30 ?_
    refine J_iload_n C 0 dX2_firstGap_31 rfl ?_
    refine J_imul C dX2_firstGap_32 ?_
    exact J_iret R C dX2_firstGap_33 (jPi.mk ⟨by unfold pgap; (repeat first | rw [if_pos (by omega)] | rw [if_neg (by omega)]); try omega, rfl⟩)
theorem c_common {G : jG} (hG : cG G) (S : jMem) (a b x : Int) (hl : lOK S) (ha : 0 ≤ a ∧ a < 8) (hb : 0 ≤ b ∧ b < 8) (hx : 0 ≤ x ∧ x < 3) : jM G yX2_commonLength cX2_commonLength 6 (some .int) 1 21 [.ref (jad G 18), .int (iI (a)), .int (iI (b)), .int (iI (x))] S (jPi (fun v S' => pcom (S 20) (S 21) a b x = v ∧ S = S')) := by
  refine jM.of (by decide) (Nat.le_of_ble_eq_true rfl) (fun E C R => ?_)
  show J E G 0 [(0, .ref (jad G 18)), (1, .int (iI (a))), (2, .int (iI (b))), (3, .int (iI (x)))] [] _
  refine J_aload_n C 0 dX2_commonLength_0 rfl ?_
  refine g_X2_15 hG C dX2_commonLength_1 ?_
  refine J_iload_n C 1 dX2_commonLength_4 rfl ?_
  refine J_iconst C dX2_commonLength_5 ?_
  refine J_imul C dX2_commonLength_6 ?_
  refine J_iload_n C 3 dX2_commonLength_7 rfl ?_
  refine J_iadd C dX2_commonLength_8 ?_
  refine cald hG C 20 24 (by decide) dX2_commonLength_9 (by omega) (by omega) ?_
  have m1 := hl.2.1 (((a) * (3)) + (x)) (by omega) (by omega)
  refine J_aload_n C 0 dX2_commonLength_10 rfl ?_
  refine g_X2_15 hG C dX2_commonLength_11 ?_
  refine J_iload_n C 2 dX2_commonLength_14 rfl ?_
  refine J_iconst C dX2_commonLength_15 ?_
  refine J_imul C dX2_commonLength_16 ?_
  refine J_iload_n C 3 dX2_commonLength_17 rfl ?_
  refine J_iadd C dX2_commonLength_18 ?_
  refine cald hG C 20 24 (by decide) dX2_commonLength_19 (by omega) (by omega) ?_
  have m2 := hl.2.1 (((b) * (3)) + (x)) (by omega) (by omega)
  refine J_callS (rest := []) C (c_max hG S (S 20 (((a) * (3)) + (x))) (S 20 (((b) * (3)) + (x))) (by omega) (by omega)) kc_J9_max_7cf53 kl_X2_49 dX2_commonLength_20 rfl rfl (by decide) (Nat.le_of_ble_eq_true rfl) (J_ki (fun v3 S3 h3 => ?_))
  obtain ⟨rfl, rfl⟩ := h3
  refine J_istore (lv' := [(4, .int (iI (max (S 20 (((a) * (3)) + (x))) (S 20 (((b) * (3)) + (x)))))), (0, .ref (jad G 18)), (1, .int (iI (a))), (2, .int (iI (b))), (3, .int (iI (x)))]) C dX2_commonLength_23 (by decide) rfl ?_
  refine J_aload_n C 1 dX2_commonLength_25 rfl ?_
  refine g_X2_18 hG C dX2_commonLength_26 ?_
  refine J_iload_n C 2 dX2_commonLength_29 rfl ?_
  refine J_iconst C dX2_commonLength_30 ?_
  refine J_imul C dX2_commonLength_31 ?_
  refine J_iload_n C 4 dX2_commonLength_32 rfl ?_
  refine J_iadd C dX2_commonLength_33 ?_
  refine cald hG C 21 24 (by decide) dX2_commonLength_34 (by omega) (by omega) ?_
  have m4 := hl.2.2 (((a) * (3)) + (x)) (by omega) (by omega)
  refine J_aload_n C 1 dX2_commonLength_35 rfl ?_
  refine g_X2_18 hG C dX2_commonLength_36 ?_
  refine J_iload_n C 3 dX2_commonLength_39 rfl ?_
  refine J_iconst C dX2_commonLength_40 ?_
  refine J_imul C dX2_commonLength_41 ?_
  refine J_iload_n C 4 dX2_commonLength_42 rfl ?_
  refine J_iadd C dX2_commonLength_43 ?_
  refine cald hG C 21 24 (by decide) dX2_commonLength_44 (by omega) (by omega) ?_
  have m5 := hl.2.2 (((b) * (3)) + (x)) (by omega) (by omega)
  refine J_callS (rest := []) C (c_min hG S (S 21 (((a) * (3)) + (x))) (S 21 (((b) * (3)) + (x))) (by omega) (by omega)) kc_J9_min_7cf53 kl_X2_54 dX2_commonLength_45 rfl rfl (by decide) (Nat.le_of_ble_eq_true rfl) (J_ki (fun v6 S6 h6 => ?_))
  obtain ⟨rfl, rfl⟩ := h6
  refine J_istore (lv' := [(5, .int (iI (min (S 21 (((a) * (3)) + (x))) (S 21 (((b) * (3)) + (x)))))), (4, .int (iI (max (S 20 (((a) * (3)) + (x))) (S 20 (((b) * (3)) + (x)))))), (0, .ref (jad G 18)), (1, .int (iI (a))), (2, .int (iI (b))), (3, .int (iI (x)))]) C dX2_commonLength_48 (by decide) rfl ?_
  refine J_iconst C dX2_commonLength_50 ?_
  refine J_iload C 0 dX2_commonLength_51 rfl ?_
  refine J_iload C 1 dX2_commonLength_53 rfl ?_
  refine J_isub C dX2_commonLength_55 ?_
  refine J_callS (rest := []) C (c_max hG S (0) ((min (S 21 (((a) * (3)) + (x))) (S 21 (((b) * (3)) + (x)))) - (max (S 20 (((a) * (3)) + (x))) (S 20 (((b) * (3)) + (x))))) (by omega) (by omega)) kc_J9_max_7cf53 kl_X2_49 dX2_commonLength_56 rfl rfl (by decide) (Nat.le_of_ble_eq_true rfl) (J_ki (fun v7 S7 h7 => ?_))
  obtain ⟨rfl, rfl⟩ := h7
  exact J_iret R C dX2_commonLength_59 (jPi.mk ⟨by rfl, rfl⟩)
theorem l_ovl2 {E : jEnv} {G : jG} (hG : cG G) (C : jX E G cX2_overlapCount 4 RX2 1 23) (S : jMem) (hl : lOK S) (a tt : Int) (ha : 0 ≤ a ∧ a < 8) : ∀ (n : Nat) (b acc : Int), n = (8 - b).toNat → (a < b ∧ b ≤ 8 ∧ acc + isum (povl (S 18 4) (S 20) (S 21) a) b (8 - b).toNat = tt) → J E G 56 [(0, .ref (jad G 18)), (1, .int (iI tt)), (2, .int (iI a))] [] S → J E G 14 [(0, .ref (jad G 18)), (1, .int (iI (acc))), (2, .int (iI (a))), (3, .int (iI (b)))] [] S := by
  intro n
  induction n using Nat.strongRecOn with | ind n ih => ?_
  intro b acc hn hi K
  refine J_iload_n C 3 dX2_overlapCount_14 rfl ?_
  refine J_bipush C dX2_overlapCount_15 (by decide) ?_
  refine J_icmp_ge C 56 dX2_overlapCount_17 (by decide) (by omega) (by omega) (fun h1 => ?_) (fun h1 => ?_)
  · have e := isum_end (povl (S 18 4) (S 20) (S 21) a) (i := b) (hi := 8) (by omega)
    refine J_lv [0, 1, 2] rfl ?_
    have e2 : acc = tt := by omega
    rw [e2]
    exact K
  · refine J_aload_n C 0 dX2_overlapCount_20 rfl ?_
    refine J_iload_n C 2 dX2_overlapCount_21 rfl ?_
    refine J_callV (k := 18) (rest := []) C (c_holds hG S (a) hl (by omega)) kc_X2_holds kl_X2_35 (by rw [hG.2]; decide) (by rw [hG.1]; rfl) rfl dX2_overlapCount_22 rfl rfl (by decide) (Nat.le_of_ble_eq_true rfl) (J_ki (fun v2 S2 h2 => ?_))
    obtain ⟨rfl, rfl⟩ := h2
    refine J_if_eq_b C 50 dX2_overlapCount_25 (by decide) (fun h3 => ?_) (fun h3 => ?_)
    · refine J_iinc (lv' := [(3, .int (iI (b + 1))), (0, .ref (jad G 18)), (1, .int (iI (acc))), (2, .int (iI (a)))]) C 3 dX2_overlapCount_50 rfl (by decide) rfl ?_
      refine J_goto C 14 dX2_overlapCount_53 (by decide) ?_
      have e := isum_step (povl (S 18 4) (S 20) (S 21) a) (i := b) (hi := 8) (by omega)
      have e2 : povl (S 18 4) (S 20) (S 21) a b = 0 := bb_f (fun h => by first | exact absurd h.1 (by assumption) | exact absurd h.2.1 (by assumption) | exact absurd h.2.2 (by assumption))
      refine J_lv [1, 2, 3, 0] rfl ?_
      exact ih _ (by omega) (b + 1) (acc) rfl ⟨by omega, by omega, by omega⟩ K
    · refine J_aload_n C 0 dX2_overlapCount_28 rfl ?_
      refine J_iload_n C 3 dX2_overlapCount_29 rfl ?_
      refine J_callV (k := 18) (rest := []) C (c_holds hG S (b) hl (by omega)) kc_X2_holds kl_X2_35 (by rw [hG.2]; decide) (by rw [hG.1]; rfl) rfl dX2_overlapCount_30 rfl rfl (by decide) (Nat.le_of_ble_eq_true rfl) (J_ki (fun v4 S4 h4 => ?_))
      obtain ⟨rfl, rfl⟩ := h4
      refine J_if_eq_b C 50 dX2_overlapCount_33 (by decide) (fun h5 => ?_) (fun h5 => ?_)
      · refine J_iinc (lv' := [(3, .int (iI (b + 1))), (0, .ref (jad G 18)), (1, .int (iI (acc))), (2, .int (iI (a)))]) C 3 dX2_overlapCount_50 rfl (by decide) rfl ?_
        refine J_goto C 14 dX2_overlapCount_53 (by decide) ?_
        have e := isum_step (povl (S 18 4) (S 20) (S 21) a) (i := b) (hi := 8) (by omega)
        have e2 : povl (S 18 4) (S 20) (S 21) a b = 0 := bb_f (fun h => by first | exact absurd h.1 (by assumption) | exact absurd h.2.1 (by assumption) | exact absurd h.2.2 (by assumption))
        refine J_lv [1, 2, 3, 0] rfl ?_
        exact ih _ (by omega) (b + 1) (acc) rfl ⟨by omega, by omega, by omega⟩ K
      · refine J_aload_n C 0 dX2_overlapCount_36 rfl ?_
        refine J_iload_n C 2 dX2_overlapCount_37 rfl ?_
        refine J_iload_n C 3 dX2_overlapCount_38 rfl ?_
        refine J_callV (k := 18) (rest := []) C (c_firstGap hG S (a) (b) hl (by omega) (by omega)) kc_X2_firstGap kl_X2_39 (by rw [hG.2]; decide) (by rw [hG.1]; rfl) rfl dX2_overlapCount_39 rfl rfl (by decide) (Nat.le_of_ble_eq_true rfl) (J_ki (fun v6 S6 h6 => ?_))
        obtain ⟨rfl, rfl⟩ := h6
        have q1 := pgap_in (S 20) (S 21) (a) (b)
        refine J_bipush C dX2_overlapCount_42 (by decide) ?_
        refine J_icmp_ne C 50 dX2_overlapCount_44 (by decide) (by omega) (by omega) (fun h7 => ?_) (fun h7 => ?_)
        · refine J_iinc (lv' := [(3, .int (iI (b + 1))), (0, .ref (jad G 18)), (1, .int (iI (acc))), (2, .int (iI (a)))]) C 3 dX2_overlapCount_50 rfl (by decide) rfl ?_
          refine J_goto C 14 dX2_overlapCount_53 (by decide) ?_
          have e := isum_step (povl (S 18 4) (S 20) (S 21) a) (i := b) (hi := 8) (by omega)
          have e2 : povl (S 18 4) (S 20) (S 21) a b = 0 := bb_f (fun h => by first | exact absurd h.1 (by assumption) | exact absurd h.2.1 (by assumption) | exact absurd h.2.2 (by assumption))
          refine J_lv [1, 2, 3, 0] rfl ?_
          exact ih _ (by omega) (b + 1) (acc) rfl ⟨by omega, by omega, by omega⟩ K
        · refine J_iinc (lv' := [(1, .int (iI (acc + 1))), (0, .ref (jad G 18)), (2, .int (iI (a))), (3, .int (iI (b)))]) C 1 dX2_overlapCount_47 rfl (by decide) rfl ?_
          refine J_iinc (lv' := [(3, .int (iI (b + 1))), (1, .int (iI (acc + 1))), (0, .ref (jad G 18)), (2, .int (iI (a)))]) C 3 dX2_overlapCount_50 rfl (by decide) rfl ?_
          refine J_goto C 14 dX2_overlapCount_53 (by decide) ?_
          have e := isum_step (povl (S 18 4) (S 20) (S 21) a) (i := b) (hi := 8) (by omega)
          have e2 : povl (S 18 4) (S 20) (S 21) a b = 1 := bb_t ⟨by assumption, by assumption, by assumption⟩
          refine J_lv [2, 1, 3, 0] rfl ?_
          exact ih _ (by omega) (b + 1) (acc + 1) rfl ⟨by omega, by omega, by omega⟩ K
theorem l_ovl1 {E : jEnv} {G : jG} (hG : cG G) (C : jX E G cX2_overlapCount 4 RX2 1 23) (S : jMem) (hl : lOK S) (R : jR E G (some .int) (jPi (fun v S' => povs (S 18 4) (S 20) (S 21) = v ∧ S = S'))) : ∀ (n : Nat) (a acc : Int), n = (8 - a).toNat → (0 ≤ a ∧ a ≤ 8 ∧ acc + isum (fun a => isum (povl (S 18 4) (S 20) (S 21) a) (a + 1) (8 - (a + 1)).toNat) a (8 - a).toNat = povs (S 18 4) (S 20) (S 21)) → J E G 4 [(0, .ref (jad G 18)), (1, .int (iI (acc))), (2, .int (iI (a)))] [] S := by
  intro n
  induction n using Nat.strongRecOn with | ind n ih => ?_
  intro a acc hn hi
  refine J_iload_n C 2 dX2_overlapCount_4 rfl ?_
  refine J_bipush C dX2_overlapCount_5 (by decide) ?_
  refine J_icmp_ge C 62 dX2_overlapCount_7 (by decide) (by omega) (by omega) (fun h1 => ?_) (fun h1 => ?_)
  · refine J_iload_n C 1 dX2_overlapCount_62 rfl ?_
    exact J_iret R C dX2_overlapCount_63 (jPi.mk ⟨by have e := isum_end (fun a => isum (povl (S 18 4) (S 20) (S 21) a) (a + 1) (8 - (a + 1)).toNat) (i := a) (hi := 8) (by omega); omega, rfl⟩)
  · refine J_iload_n C 2 dX2_overlapCount_10 rfl ?_
    refine J_iconst C dX2_overlapCount_11 ?_
    refine J_iadd C dX2_overlapCount_12 ?_
    refine J_istore_n (lv' := [(3, .int (iI ((a) + (1)))), (0, .ref (jad G 18)), (1, .int (iI (acc))), (2, .int (iI (a)))]) C dX2_overlapCount_13 (by decide) rfl ?_
    have e := isum_step (fun a => isum (povl (S 18 4) (S 20) (S 21) a) (a + 1) (8 - (a + 1)).toNat) (i := a) (hi := 8) (by omega)
    try dsimp only at e
    refine J_lv [1, 2, 3, 0] rfl ?_
    refine l_ovl2 hG C S hl a (acc + isum (povl (S 18 4) (S 20) (S 21) a) (a + 1) (8 - (a + 1)).toNat) (by omega) _ (a + 1) acc rfl ⟨by omega, by omega, by omega⟩ ?_
    refine J_iinc (lv' := [(2, .int (iI (a + 1))), (0, .ref (jad G 18)), (1, .int (iI (acc + isum (povl (S 18 4) (S 20) (S 21) a) (a + 1) (8 - (a + 1)).toNat)))]) C 2 dX2_overlapCount_56 rfl (by decide) rfl ?_
    refine J_goto C 4 dX2_overlapCount_59 (by decide) ?_
    refine J_lv [1, 2, 0] rfl ?_
    exact ih _ (by omega) (a + 1) _ rfl ⟨by omega, by omega, by omega⟩
theorem c_overlapCount {G : jG} (hG : cG G) (S : jMem) (hl : lOK S) : jM G yX2_overlapCount cX2_overlapCount 4 (some .int) 1 23 [.ref (jad G 18)] S (jPi (fun v S' => povs (S 18 4) (S 20) (S 21) = v ∧ S = S')) := by
  refine jM.of (by decide) (Nat.le_of_ble_eq_true rfl) (fun E C R => ?_)
  show J E G 0 [(0, .ref (jad G 18))] [] _
  refine J_iconst C dX2_overlapCount_0 ?_
  refine J_istore_n (lv' := [(1, .int (iI (0))), (0, .ref (jad G 18))]) C dX2_overlapCount_1 (by decide) rfl ?_
  refine J_iconst C dX2_overlapCount_2 ?_
  refine J_istore_n (lv' := [(2, .int (iI (0))), (1, .int (iI (0))), (0, .ref (jad G 18))]) C dX2_overlapCount_3 (by decide) rfl ?_
  refine J_lv [2, 1, 0] rfl ?_
  exact l_ovl1 hG C S hl R _ 0 0 rfl ⟨by omega, by omega, by rw [Int.zero_add]; rfl⟩
theorem l_wsum {E : jEnv} {G : jG} (hG : cG G) (C : jX E G cX2_weightSum 3 RX2 1 21) (S : jMem)  (hl : lOK S) (R : jR E G (some .int) (jPi (fun v S' => pwsum (S 18 4) (S 5) = v ∧ S = S'))) : ∀ (n : Nat) (i acc : Int), n = (8 - i).toNat → (0 ≤ i ∧ i ≤ 8 ∧ acc + isum (fun b => bb (zbit (S 18 4) b) * S 5 b) i (8 - i).toNat = pwsum (S 18 4) (S 5)) → J E G 4 [(0, .ref (jad G 18)), (1, .int (iI (acc))), (2, .int (iI (i)))] [] S := by
  intro n
  induction n using Nat.strongRecOn with | ind n ih => ?_
  intro i acc hn hi
  refine J_iload_n C 2 dX2_weightSum_4 rfl ?_
  refine J_bipush C dX2_weightSum_5 (by decide) ?_
  refine J_icmp_ge C 36 dX2_weightSum_7 (by decide) (by omega) (by omega) (fun h1 => ?_) (fun h1 => ?_)
  · refine J_iload_n C 1 dX2_weightSum_36 rfl ?_
    exact J_iret R C dX2_weightSum_37 (jPi.mk ⟨by have e := isum_end (fun b => bb (zbit (S 18 4) b) * S 5 b) (i := i) (hi := 8) (by omega); omega, rfl⟩)
  · refine J_aload_n C 0 dX2_weightSum_10 rfl ?_
    refine J_iload_n C 2 dX2_weightSum_11 rfl ?_
    refine J_callV (k := 18) (rest := []) C (c_holds hG S (i) hl (by omega)) kc_X2_holds kl_X2_35 (by rw [hG.2]; decide) (by rw [hG.1]; rfl) rfl dX2_weightSum_12 rfl rfl (by decide) (Nat.le_of_ble_eq_true rfl) (J_ki (fun v2 S2 h2 => ?_))
    obtain ⟨rfl, rfl⟩ := h2
    refine J_if_eq_b C 30 dX2_weightSum_15 (by decide) (fun h3 => ?_) (fun h3 => ?_)
    · refine J_iinc (lv' := [(2, .int (iI (i + 1))), (0, .ref (jad G 18)), (1, .int (iI (acc)))]) C 2 dX2_weightSum_30 rfl (by decide) rfl ?_
      refine J_goto C 4 dX2_weightSum_33 (by decide) ?_
      have e := isum_step (fun b => bb (zbit (S 18 4) b) * S 5 b) (i := i) (hi := 8) (by omega)
      try dsimp only at e
      rw [bb_mul_f (by first | assumption | exact ⟨by assumption, by assumption⟩ | (intro h; first | exact absurd h (by assumption) | exact absurd h.1 (by assumption) | exact absurd h.2 (by assumption)))] at e
      refine J_lv [1, 2, 0] rfl ?_
      exact ih _ (by omega) (i + 1) (acc) rfl ⟨by omega, by omega, by omega⟩
    · refine J_iload_n C 1 dX2_weightSum_18 rfl ?_
      refine J_aload_n C 0 dX2_weightSum_19 rfl ?_
      refine g_X2_21 hG C dX2_weightSum_20 ?_
      refine g_X2_57 hG C dX2_weightSum_23 ?_
      refine J_iload_n C 2 dX2_weightSum_26 rfl ?_
      refine cald hG C 5 8 (by decide) dX2_weightSum_27 (by omega) (by omega) ?_
      refine J_iadd C dX2_weightSum_28 ?_
      refine J_istore_n (lv' := [(1, .int (iI ((acc) + (S 5 (i))))), (0, .ref (jad G 18)), (2, .int (iI (i)))]) C dX2_weightSum_29 (by decide) rfl ?_
      refine J_iinc (lv' := [(2, .int (iI (i + 1))), (1, .int (iI ((acc) + (S 5 (i))))), (0, .ref (jad G 18))]) C 2 dX2_weightSum_30 rfl (by decide) rfl ?_
      refine J_goto C 4 dX2_weightSum_33 (by decide) ?_
      have e := isum_step (fun b => bb (zbit (S 18 4) b) * S 5 b) (i := i) (hi := 8) (by omega)
      try dsimp only at e
      rw [bb_mul_t (by first | assumption | exact ⟨by assumption, by assumption⟩ | (intro h; first | exact absurd h (by assumption) | exact absurd h.1 (by assumption) | exact absurd h.2 (by assumption)))] at e
      refine J_lv [2, 1, 0] rfl ?_
      exact ih _ (by omega) (i + 1) ((acc) + (S 5 (i))) rfl ⟨by omega, by omega, by omega⟩
theorem c_weightSum {G : jG} (hG : cG G) (S : jMem) (hl : lOK S) : jM G yX2_weightSum cX2_weightSum 3 (some .int) 1 21 [.ref (jad G 18)] S (jPi (fun v S' => pwsum (S 18 4) (S 5) = v ∧ S = S')) := by
  refine jM.of (by decide) (Nat.le_of_ble_eq_true rfl) (fun E C R => ?_)
  show J E G 0 [(0, .ref (jad G 18))] [] _
  refine J_iconst C dX2_weightSum_0 ?_
  refine J_istore_n (lv' := [(1, .int (iI (0))), (0, .ref (jad G 18))]) C dX2_weightSum_1 (by decide) rfl ?_
  refine J_iconst C dX2_weightSum_2 ?_
  refine J_istore_n (lv' := [(2, .int (iI (0))), (1, .int (iI (0))), (0, .ref (jad G 18))]) C dX2_weightSum_3 (by decide) rfl ?_
  refine J_lv [2, 1, 0] rfl ?_
  exact l_wsum hG C S hl R _ 0 0 rfl ⟨by omega, by omega, by rw [Int.zero_add]; rfl⟩
theorem l_mom {E : jEnv} {G : jG} (hG : cG G) (C : jX E G cX2_doubledMoment 5 RX2 1 21) (S : jMem) (x : Int) (hl : lOK S) (hx : 0 ≤ x ∧ x < 3) (R : jR E G (some .int) (jPi (fun v S' => pmom (S 18 4) (S 5) (S 20) (S 21) x = v ∧ S = S'))) : ∀ (n : Nat) (i acc : Int), n = (8 - i).toNat → (0 ≤ i ∧ i ≤ 8 ∧ acc + isum (fun b => bb (zbit (S 18 4) b) * (S 5 b * (S 20 (b * 3 + x) + S 21 (b * 3 + x)))) i (8 - i).toNat = pmom (S 18 4) (S 5) (S 20) (S 21) x) → J E G 4 [(0, .ref (jad G 18)), (1, .int (iI (x))), (2, .int (iI (acc))), (3, .int (iI (i)))] [] S := by
  intro n
  induction n using Nat.strongRecOn with | ind n ih => ?_
  intro i acc hn hi
  refine J_iload_n C 3 dX2_doubledMoment_4 rfl ?_
  refine J_bipush C dX2_doubledMoment_5 (by decide) ?_
  refine J_icmp_ge C 59 dX2_doubledMoment_7 (by decide) (by omega) (by omega) (fun h1 => ?_) (fun h1 => ?_)
  · refine J_iload_n C 2 dX2_doubledMoment_59 rfl ?_
    exact J_iret R C dX2_doubledMoment_60 (jPi.mk ⟨by have e := isum_end (fun b => bb (zbit (S 18 4) b) * (S 5 b * (S 20 (b * 3 + x) + S 21 (b * 3 + x)))) (i := i) (hi := 8) (by omega); omega, rfl⟩)
  · refine J_aload_n C 0 dX2_doubledMoment_10 rfl ?_
    refine J_iload_n C 3 dX2_doubledMoment_11 rfl ?_
    refine J_callV (k := 18) (rest := []) C (c_holds hG S (i) hl (by omega)) kc_X2_holds kl_X2_35 (by rw [hG.2]; decide) (by rw [hG.1]; rfl) rfl dX2_doubledMoment_12 rfl rfl (by decide) (Nat.le_of_ble_eq_true rfl) (J_ki (fun v2 S2 h2 => ?_))
    obtain ⟨rfl, rfl⟩ := h2
    refine J_if_eq_b C 53 dX2_doubledMoment_15 (by decide) (fun h3 => ?_) (fun h3 => ?_)
    · refine J_iinc (lv' := [(3, .int (iI (i + 1))), (0, .ref (jad G 18)), (1, .int (iI (x))), (2, .int (iI (acc)))]) C 3 dX2_doubledMoment_53 rfl (by decide) rfl ?_
      refine J_goto C 4 dX2_doubledMoment_56 (by decide) ?_
      have e := isum_step (fun b => bb (zbit (S 18 4) b) * (S 5 b * (S 20 (b * 3 + x) + S 21 (b * 3 + x)))) (i := i) (hi := 8) (by omega)
      try dsimp only at e
      rw [bb_mul_f (by first | assumption | exact ⟨by assumption, by assumption⟩ | (intro h; first | exact absurd h (by assumption) | exact absurd h.1 (by assumption) | exact absurd h.2 (by assumption)))] at e
      refine J_lv [1, 2, 3, 0] rfl ?_
      exact ih _ (by omega) (i + 1) (acc) rfl ⟨by omega, by omega, by omega⟩
    · refine J_iload_n C 3 dX2_doubledMoment_18 rfl ?_
      refine J_iconst C dX2_doubledMoment_19 ?_
      refine J_imul C dX2_doubledMoment_20 ?_
      refine J_iload_n C 1 dX2_doubledMoment_21 rfl ?_
      refine J_iadd C dX2_doubledMoment_22 ?_
      refine J_istore (lv' := [(4, .int (iI (((i) * (3)) + (x)))), (0, .ref (jad G 18)), (1, .int (iI (x))), (2, .int (iI (acc))), (3, .int (iI (i)))]) C dX2_doubledMoment_23 (by decide) rfl ?_
      refine J_iload_n C 3 dX2_doubledMoment_25 rfl ?_
      refine J_aload_n C 1 dX2_doubledMoment_26 rfl ?_
      refine g_X2_21 hG C dX2_doubledMoment_27 ?_
      refine g_X2_57 hG C dX2_doubledMoment_30 ?_
      refine J_iload_n C 4 dX2_doubledMoment_33 rfl ?_
      refine cald hG C 5 8 (by decide) dX2_doubledMoment_34 (by omega) (by omega) ?_
      refine J_aload_n C 1 dX2_doubledMoment_35 rfl ?_
      refine g_X2_15 hG C dX2_doubledMoment_36 ?_
      refine J_iload C 0 dX2_doubledMoment_39 rfl ?_
      refine cald hG C 20 24 (by decide) dX2_doubledMoment_41 (by omega) (by omega) ?_
      have m4 := hl.2.1 (((i) * (3)) + (x)) (by omega) (by omega)
      refine J_aload_n C 1 dX2_doubledMoment_42 rfl ?_
      refine g_X2_18 hG C dX2_doubledMoment_43 ?_
      refine J_iload C 0 dX2_doubledMoment_46 rfl ?_
      refine cald hG C 21 24 (by decide) dX2_doubledMoment_48 (by omega) (by omega) ?_
      have m5 := hl.2.2 (((i) * (3)) + (x)) (by omega) (by omega)
      refine J_iadd C dX2_doubledMoment_49 ?_
      refine J_imul C dX2_doubledMoment_50 ?_
      refine J_iadd C dX2_doubledMoment_51 ?_
      refine J_istore_n (lv' := [(2, .int (iI ((acc) + ((S 5 (i)) * ((S 20 (((i) * (3)) + (x))) + (S 21 (((i) * (3)) + (x)))))))), (4, .int (iI (((i) * (3)) + (x)))), (0, .ref (jad G 18)), (1, .int (iI (x))), (3, .int (iI (i)))]) C dX2_doubledMoment_52 (by decide) rfl ?_
      refine J_iinc (lv' := [(3, .int (iI (i + 1))), (2, .int (iI ((acc) + ((S 5 (i)) * ((S 20 (((i) * (3)) + (x))) + (S 21 (((i) * (3)) + (x)))))))), (4, .int (iI (((i) * (3)) + (x)))), (0, .ref (jad G 18)), (1, .int (iI (x)))]) C 4 dX2_doubledMoment_53 rfl (by decide) rfl ?_
      refine J_goto C 4 dX2_doubledMoment_56 (by decide) ?_
      have e := isum_step (fun b => bb (zbit (S 18 4) b) * (S 5 b * (S 20 (b * 3 + x) + S 21 (b * 3 + x)))) (i := i) (hi := 8) (by omega)
      try dsimp only at e
      rw [bb_mul_t (by first | assumption | exact ⟨by assumption, by assumption⟩ | (intro h; first | exact absurd h (by assumption) | exact absurd h.1 (by assumption) | exact absurd h.2 (by assumption)))] at e
      refine J_lv [3, 4, 1, 0] rfl ?_
      exact ih _ (by omega) (i + 1) ((acc) + ((S 5 (i)) * ((S 20 (((i) * (3)) + (x))) + (S 21 (((i) * (3)) + (x)))))) rfl ⟨by omega, by omega, by omega⟩
theorem c_moment {G : jG} (hG : cG G) (S : jMem) (x : Int) (hl : lOK S) (hx : 0 ≤ x ∧ x < 3) : jM G yX2_doubledMoment cX2_doubledMoment 5 (some .int) 1 21 [.ref (jad G 18), .int (iI (x))] S (jPi (fun v S' => pmom (S 18 4) (S 5) (S 20) (S 21) x = v ∧ S = S')) := by
  refine jM.of (by decide) (Nat.le_of_ble_eq_true rfl) (fun E C R => ?_)
  show J E G 0 [(0, .ref (jad G 18)), (1, .int (iI (x)))] [] _
  refine J_iconst C dX2_doubledMoment_0 ?_
  refine J_istore_n (lv' := [(2, .int (iI (0))), (0, .ref (jad G 18)), (1, .int (iI (x)))]) C dX2_doubledMoment_1 (by decide) rfl ?_
  refine J_iconst C dX2_doubledMoment_2 ?_
  refine J_istore_n (lv' := [(3, .int (iI (0))), (2, .int (iI (0))), (0, .ref (jad G 18)), (1, .int (iI (x)))]) C dX2_doubledMoment_3 (by decide) rfl ?_
  refine J_lv [2, 3, 1, 0] rfl ?_
  exact l_mom hG C S x hl hx R _ 0 0 rfl ⟨by omega, by omega, by rw [Int.zero_add]; rfl⟩
theorem l_held {E : jEnv} {G : jG} (hG : cG G) (C : jX E G cX2_heldArea 5 RX2 2 46) (S : jMem) (b : Int) (hl : lOK S) (hb : 0 ≤ b ∧ b < 8) (hz : ¬ S 20 (b * 3 + 2) = 0) (R : jR E G (some .int) (jPi (fun v S' => (if S 20 (b * 3 + 2) = 0 then (S 21 (b * 3 + 0) - S 20 (b * 3 + 0)) * (S 21 (b * 3 + 1) - S 20 (b * 3 + 1)) else isum (pheld (S 18 4) (S 20) (S 21) b) 0 (8 - 0 : Int).toNat) = v ∧ S = S'))) : ∀ (n : Nat) (i acc : Int), n = (8 - i).toNat → (0 ≤ i ∧ i ≤ 8 ∧ acc + isum (fun o => bb (zbit (S 18 4) o ∧ S 21 (o * 3 + 2) = S 20 (b * 3 + 2)) * (pcom (S 20) (S 21) b o 0 * pcom (S 20) (S 21) b o 1)) i (8 - i).toNat = (if S 20 (b * 3 + 2) = 0 then (S 21 (b * 3 + 0) - S 20 (b * 3 + 0)) * (S 21 (b * 3 + 1) - S 20 (b * 3 + 1)) else isum (pheld (S 18 4) (S 20) (S 21) b) 0 (8 - 0 : Int).toNat)) → J E G 34 [(0, .ref (jad G 18)), (1, .int (iI (b))), (2, .int (iI (S 20 (b * 3 + 2)))), (3, .int (iI (acc))), (4, .int (iI (i)))] [] S := by
  intro n
  induction n using Nat.strongRecOn with | ind n ih => ?_
  intro i acc hn hi
  have hg := hl.2.1 (b * 3 + 2) (by omega) (by omega)
  refine J_iload C 4 dX2_heldArea_34 rfl ?_
  refine J_bipush C dX2_heldArea_36 (by decide) ?_
  refine J_icmp_ge C 91 dX2_heldArea_38 (by decide) (by omega) (by omega) (fun h1 => ?_) (fun h1 => ?_)
  · refine J_iload_n C 3 dX2_heldArea_91 rfl ?_
    exact J_iret R C dX2_heldArea_92 (jPi.mk ⟨by have e := isum_end (fun o => bb (zbit (S 18 4) o ∧ S 21 (o * 3 + 2) = S 20 (b * 3 + 2)) * (pcom (S 20) (S 21) b o 0 * pcom (S 20) (S 21) b o 1)) (i := i) (hi := 8) (by omega); omega, rfl⟩)
  · refine J_aload_n C 0 dX2_heldArea_41 rfl ?_
    refine J_iload C 4 dX2_heldArea_42 rfl ?_
    refine J_callV (k := 18) (rest := []) C (c_holds hG S (i) hl (by omega)) kc_X2_holds kl_X2_35 (by rw [hG.2]; decide) (by rw [hG.1]; rfl) rfl dX2_heldArea_44 rfl rfl (by decide) (Nat.le_of_ble_eq_true rfl) (J_ki (fun v2 S2 h2 => ?_))
    obtain ⟨rfl, rfl⟩ := h2
    refine J_if_eq_b C 85 dX2_heldArea_47 (by decide) (fun h3 => ?_) (fun h3 => ?_)
    · refine J_iinc (lv' := [(4, .int (iI (i + 1))), (0, .ref (jad G 18)), (1, .int (iI (b))), (2, .int (iI (S 20 (b * 3 + 2)))), (3, .int (iI (acc)))]) C 4 dX2_heldArea_85 rfl (by decide) rfl ?_
      refine J_goto C 34 dX2_heldArea_88 (by decide) ?_
      have e := isum_step (fun o => bb (zbit (S 18 4) o ∧ S 21 (o * 3 + 2) = S 20 (b * 3 + 2)) * (pcom (S 20) (S 21) b o 0 * pcom (S 20) (S 21) b o 1)) (i := i) (hi := 8) (by omega)
      try dsimp only at e
      rw [bb_mul_f (by first | assumption | exact ⟨by assumption, by assumption⟩ | (intro h; first | exact absurd h (by assumption) | exact absurd h.1 (by assumption) | exact absurd h.2 (by assumption)))] at e
      refine J_lv [1, 2, 3, 4, 0] rfl ?_
      exact ih _ (by omega) (i + 1) (acc) rfl ⟨by omega, by omega, by omega⟩
    · refine J_aload_n C 0 dX2_heldArea_50 rfl ?_
      refine g_X2_18 hG C dX2_heldArea_51 ?_
      refine J_iload C 4 dX2_heldArea_54 rfl ?_
      refine J_iconst C dX2_heldArea_56 ?_
      refine J_imul C dX2_heldArea_57 ?_
      refine J_iconst C dX2_heldArea_58 ?_
      refine J_iadd C dX2_heldArea_59 ?_
      refine cald hG C 21 24 (by decide) dX2_heldArea_60 (by omega) (by omega) ?_
      have m4 := hl.2.2 (((i) * (3)) + (2)) (by omega) (by omega)
      refine J_iload_n C 2 dX2_heldArea_61 rfl ?_
      refine J_icmp_ne C 85 dX2_heldArea_62 (by decide) (by omega) (by omega) (fun h5 => ?_) (fun h5 => ?_)
      · refine J_iinc (lv' := [(4, .int (iI (i + 1))), (0, .ref (jad G 18)), (1, .int (iI (b))), (2, .int (iI (S 20 (b * 3 + 2)))), (3, .int (iI (acc)))]) C 4 dX2_heldArea_85 rfl (by decide) rfl ?_
        refine J_goto C 34 dX2_heldArea_88 (by decide) ?_
        have e := isum_step (fun o => bb (zbit (S 18 4) o ∧ S 21 (o * 3 + 2) = S 20 (b * 3 + 2)) * (pcom (S 20) (S 21) b o 0 * pcom (S 20) (S 21) b o 1)) (i := i) (hi := 8) (by omega)
        try dsimp only at e
        rw [bb_mul_f (by first | assumption | exact ⟨by assumption, by assumption⟩ | (intro h; first | exact absurd h (by assumption) | exact absurd h.1 (by assumption) | exact absurd h.2 (by assumption)))] at e
        refine J_lv [1, 2, 3, 4, 0] rfl ?_
        exact ih _ (by omega) (i + 1) (acc) rfl ⟨by omega, by omega, by omega⟩
      · refine J_iload_n C 3 dX2_heldArea_65 rfl ?_
        refine J_aload_n C 0 dX2_heldArea_66 rfl ?_
        refine J_iload_n C 1 dX2_heldArea_67 rfl ?_
        refine J_iload C 4 dX2_heldArea_68 rfl ?_
        refine J_iconst C dX2_heldArea_70 ?_
        refine J_callV (k := 18) (rest := [.int (iI (acc))]) C (c_common hG S (b) (i) (0) hl (by omega) (by omega) (by omega)) kc_X2_commonLength kl_X2_46 (by rw [hG.2]; decide) (by rw [hG.1]; rfl) rfl dX2_heldArea_71 rfl rfl (by decide) (Nat.le_of_ble_eq_true rfl) (J_ki (fun v6 S6 h6 => ?_))
        obtain ⟨rfl, rfl⟩ := h6
        refine J_aload_n C 0 dX2_heldArea_74 rfl ?_
        refine J_iload_n C 1 dX2_heldArea_75 rfl ?_
        refine J_iload C 4 dX2_heldArea_76 rfl ?_
        refine J_iconst C dX2_heldArea_78 ?_
        refine J_callV (k := 18) (rest := [.int (iI (pcom (S 20) (S 21) (b) (i) (0))), .int (iI (acc))]) C (c_common hG S (b) (i) (1) hl (by omega) (by omega) (by omega)) kc_X2_commonLength kl_X2_46 (by rw [hG.2]; decide) (by rw [hG.1]; rfl) rfl dX2_heldArea_79 rfl rfl (by decide) (Nat.le_of_ble_eq_true rfl) (J_ki (fun v7 S7 h7 => ?_))
        obtain ⟨rfl, rfl⟩ := h7
        refine J_imul C dX2_heldArea_82 ?_
        refine J_iadd C dX2_heldArea_83 ?_
        refine J_istore_n (lv' := [(3, .int (iI ((acc) + ((pcom (S 20) (S 21) (b) (i) (0)) * (pcom (S 20) (S 21) (b) (i) (1)))))), (0, .ref (jad G 18)), (1, .int (iI (b))), (2, .int (iI (S 20 (b * 3 + 2)))), (4, .int (iI (i)))]) C dX2_heldArea_84 (by decide) rfl ?_
        refine J_iinc (lv' := [(4, .int (iI (i + 1))), (3, .int (iI ((acc) + ((pcom (S 20) (S 21) (b) (i) (0)) * (pcom (S 20) (S 21) (b) (i) (1)))))), (0, .ref (jad G 18)), (1, .int (iI (b))), (2, .int (iI (S 20 (b * 3 + 2))))]) C 4 dX2_heldArea_85 rfl (by decide) rfl ?_
        refine J_goto C 34 dX2_heldArea_88 (by decide) ?_
        have e := isum_step (fun o => bb (zbit (S 18 4) o ∧ S 21 (o * 3 + 2) = S 20 (b * 3 + 2)) * (pcom (S 20) (S 21) b o 0 * pcom (S 20) (S 21) b o 1)) (i := i) (hi := 8) (by omega)
        try dsimp only at e
        rw [bb_mul_t (by first | assumption | exact ⟨by assumption, by assumption⟩ | (intro h; first | exact absurd h (by assumption) | exact absurd h.1 (by assumption) | exact absurd h.2 (by assumption)))] at e
        refine J_lv [2, 3, 4, 1, 0] rfl ?_
        exact ih _ (by omega) (i + 1) ((acc) + ((pcom (S 20) (S 21) (b) (i) (0)) * (pcom (S 20) (S 21) (b) (i) (1)))) rfl ⟨by omega, by omega, by omega⟩
theorem c_held {G : jG} (hG : cG G) (S : jMem) (b : Int) (hl : lOK S) (hb : 0 ≤ b ∧ b < 8) : jM G yX2_heldArea cX2_heldArea 5 (some .int) 2 46 [.ref (jad G 18), .int (iI (b))] S (jPi (fun v S' => (if S 20 (b * 3 + 2) = 0 then (S 21 (b * 3 + 0) - S 20 (b * 3 + 0)) * (S 21 (b * 3 + 1) - S 20 (b * 3 + 1)) else isum (pheld (S 18 4) (S 20) (S 21) b) 0 (8 - 0 : Int).toNat) = v ∧ S = S')) := by
  refine jM.of (by decide) (Nat.le_of_ble_eq_true rfl) (fun E C R => ?_)
  show J E G 0 [(0, .ref (jad G 18)), (1, .int (iI (b)))] [] _
  refine J_aload_n C 0 dX2_heldArea_0 rfl ?_
  refine g_X2_15 hG C dX2_heldArea_1 ?_
  refine J_iload_n C 1 dX2_heldArea_4 rfl ?_
  refine J_iconst C dX2_heldArea_5 ?_
  refine J_imul C dX2_heldArea_6 ?_
  refine J_iconst C dX2_heldArea_7 ?_
  refine J_iadd C dX2_heldArea_8 ?_
  refine cald hG C 20 24 (by decide) dX2_heldArea_9 (by omega) (by omega) ?_
  have m1 := hl.2.1 (((b) * (3)) + (2)) (by omega) (by omega)
  refine J_istore_n (lv' := [(2, .int (iI (S 20 (((b) * (3)) + (2))))), (0, .ref (jad G 18)), (1, .int (iI (b)))]) C dX2_heldArea_10 (by decide) rfl ?_
  refine J_iload_n C 0 dX2_heldArea_11 rfl ?_
  refine J_if_ne C 29 dX2_heldArea_12 (by decide) (by omega) (fun h2 => ?_) (fun h2 => ?_)
  · refine J_iconst C dX2_heldArea_29 ?_
    refine J_istore_n (lv' := [(3, .int (iI (0))), (2, .int (iI (S 20 (((b) * (3)) + (2))))), (0, .ref (jad G 18)), (1, .int (iI (b)))]) C dX2_heldArea_30 (by decide) rfl ?_
    refine J_iconst C dX2_heldArea_31 ?_
    refine J_istore (lv' := [(4, .int (iI (0))), (3, .int (iI (0))), (2, .int (iI (S 20 (((b) * (3)) + (2))))), (0, .ref (jad G 18)), (1, .int (iI (b)))]) C dX2_heldArea_32 (by decide) rfl ?_
    refine J_lv [3, 4, 2, 1, 0] rfl ?_
    exact l_held hG C S b hl hb (by assumption) R _ 0 0 rfl ⟨by omega, by omega, by rw [Int.zero_add, if_neg (by assumption)]; rfl⟩
  · refine J_aload_n C 1 dX2_heldArea_15 rfl ?_
    refine J_iload_n C 2 dX2_heldArea_16 rfl ?_
    refine J_iconst C dX2_heldArea_17 ?_
    refine J_callV (k := 18) (rest := []) C (c_extentOf hG S (b) (0) (by omega) (by omega)) kc_X2_extentOf kl_X2_43 (by rw [hG.2]; decide) (by rw [hG.1]; rfl) rfl dX2_heldArea_18 rfl rfl (by decide) (Nat.le_of_ble_eq_true rfl) (J_ki (fun v3 S3 h3 => ?_))
    obtain ⟨rfl, rfl⟩ := h3
    refine J_aload_n C 1 dX2_heldArea_21 rfl ?_
    refine J_iload_n C 2 dX2_heldArea_22 rfl ?_
    refine J_iconst C dX2_heldArea_23 ?_
    refine J_callV (k := 18) (rest := [.int (iI (S 21 (b * 3 + 0) - S 20 (b * 3 + 0)))]) C (c_extentOf hG S (b) (1) (by omega) (by omega)) kc_X2_extentOf kl_X2_43 (by rw [hG.2]; decide) (by rw [hG.1]; rfl) rfl dX2_heldArea_24 rfl rfl (by decide) (Nat.le_of_ble_eq_true rfl) (J_ki (fun v4 S4 h4 => ?_))
    obtain ⟨rfl, rfl⟩ := h4
    refine J_imul C dX2_heldArea_27 ?_
    exact J_iret R C dX2_heldArea_28 (jPi.mk ⟨by rw [if_pos (by assumption)], rfl⟩)
end
section
/-! reading a memory that has been written -/
theorem rd_k {S : jMem} {k k' : Nat} {a w i v : Int} (h : k' ≠ k) (e : S k' i = v) : up2 S k a w k' i = v := by rw [up2_k S a w h]; exact e
theorem rd_a {S : jMem} {k : Nat} {a w i v : Int} (h : i ≠ a) (e : S k i = v) : up2 S k a w k i = v := by rw [up2_a S k w h]; exact e
theorem rd_e {S : jMem} {k : Nat} {a w i : Int} (h : i = a) : up2 S k a w k i = w := by rw [h, up2_eq]
theorem J_topl {E : jEnv} {G : jG} {pc : Nat} {lv : List (Nat × Value)} {st : List Value} {S : jMem} {a b : Int} (h : a = b) (k : J E G pc lv (.long (iL b) :: st) S) : J E G pc lv (.long (iL a) :: st) S := h ▸ k
theorem zpow_in {b : Int} (h0 : 0 ≤ b) (h1 : b < 8) : (1 : Int) ≤ 1 * 2 ^ b.toNat ∧ 1 * 2 ^ b.toNat ≤ (128 : Int) := by
  obtain ⟨n, rfl⟩ := Int.eq_ofNat_of_zero_le h0
  have : ∀ k, k < 8 → (1 : Int) ≤ 1 * 2 ^ k ∧ 1 * 2 ^ k ≤ (128 : Int) := by decide
  exact this n (by omega)
/-- a box is laid -/
def putS (S : jMem) (b t x y z : Int) : jMem := up2 (up2 (up2 (up2 (up2 (up2 (up2 (up2 S 19 b t) 20 (b * 3) x) 20 (b * 3 + 1) y) 20 (b * 3 + 2) z) 21 (b * 3 + 0) (x + pext (S 3) b t 0)) 21 (b * 3 + 1) (y + pext (S 3) b t 1)) 21 (b * 3 + 2) (z + pext (S 3) b t 2)) 18 4 (zor (S 18 4) (1 * 2 ^ b.toNat))
end
section
theorem c_put {G : jG} (hG : cG G) (S : jMem) (b t x y z : Int) (hk : cOK S) (hl : lOK S) (hb : 0 ≤ b ∧ b < 8) (ht : 0 ≤ t ∧ t < 6) : jM G yX2_put cX2_put 8 none 1 23 [.ref (jad G 18), .int (iI (b)), .int (iI (t)), .int (iI (x)), .int (iI (y)), .int (iI (z))] S (jPv (fun S' => putS S b t x y z = S')) := by
  refine jM.of (by decide) (Nat.le_of_ble_eq_true rfl) (fun E C R => ?_)
  show J E G 0 [(0, .ref (jad G 18)), (1, .int (iI (b))), (2, .int (iI (t))), (3, .int (iI (x))), (4, .int (iI (y))), (5, .int (iI (z)))] [] _
  have hm := hl.1
  have hp := zpow_in hb.1 hb.2
  refine J_aload_n C 0 dX2_put_0 rfl ?_
  refine g_X2_9 hG C dX2_put_1 ?_
  refine J_iload_n C 1 dX2_put_4 rfl ?_
  refine J_iload_n C 2 dX2_put_5 rfl ?_
  refine cast hG C 19 8 (by decide) dX2_put_6 (by omega) (by omega) ?_
  refine J_aload_n C 0 dX2_put_7 rfl ?_
  refine g_X2_15 hG C dX2_put_8 ?_
  refine J_iload_n C 1 dX2_put_11 rfl ?_
  refine J_iconst C dX2_put_12 ?_
  refine J_imul C dX2_put_13 ?_
  refine J_iload_n C 3 dX2_put_14 rfl ?_
  refine cast hG C 20 24 (by decide) dX2_put_15 (by omega) (by omega) ?_
  refine J_aload_n C 0 dX2_put_16 rfl ?_
  refine g_X2_15 hG C dX2_put_17 ?_
  refine J_iload_n C 1 dX2_put_20 rfl ?_
  refine J_iconst C dX2_put_21 ?_
  refine J_imul C dX2_put_22 ?_
  refine J_iconst C dX2_put_23 ?_
  refine J_iadd C dX2_put_24 ?_
  refine J_iload C 4 dX2_put_25 rfl ?_
  refine cast hG C 20 24 (by decide) dX2_put_27 (by omega) (by omega) ?_
  refine J_aload_n C 0 dX2_put_28 rfl ?_
  refine g_X2_15 hG C dX2_put_29 ?_
  refine J_iload_n C 1 dX2_put_32 rfl ?_
  refine J_iconst C dX2_put_33 ?_
  refine J_imul C dX2_put_34 ?_
  refine J_iconst C dX2_put_35 ?_
  refine J_iadd C dX2_put_36 ?_
  refine J_iload C 5 dX2_put_37 rfl ?_
  refine cast hG C 20 24 (by decide) dX2_put_39 (by omega) (by omega) ?_
  refine J_iconst C dX2_put_40 ?_
  refine J_istore (lv' := [(6, .int (iI (0))), (0, .ref (jad G 18)), (1, .int (iI (b))), (2, .int (iI (t))), (3, .int (iI (x))), (4, .int (iI (y))), (5, .int (iI (z)))]) C dX2_put_41 (by decide) rfl ?_
  refine J_iload C 0 dX2_put_43 rfl ?_
  refine J_iconst C dX2_put_45 ?_
  refine J_icmp_ge C 89 dX2_put_46 (by decide) (by omega) (by omega) (fun h => absurd h (by omega)) (fun _ => ?_)
  refine J_iload_n C 2 dX2_put_49 rfl ?_
  refine J_iconst C dX2_put_50 ?_
  refine J_imul C dX2_put_51 ?_
  refine J_iload C 0 dX2_put_52 rfl ?_
  refine J_iadd C dX2_put_54 ?_
  refine J_istore (lv' := [(7, .int (iI (((b) * (3)) + (0)))), (6, .int (iI (0))), (0, .ref (jad G 18)), (1, .int (iI (b))), (2, .int (iI (t))), (3, .int (iI (x))), (4, .int (iI (y))), (5, .int (iI (z)))]) C dX2_put_55 (by decide) rfl ?_
  refine J_aload_n C 2 dX2_put_57 rfl ?_
  refine g_X2_18 hG C dX2_put_58 ?_
  refine J_iload C 0 dX2_put_61 rfl ?_
  refine J_aload_n C 2 dX2_put_63 rfl ?_
  refine g_X2_15 hG C dX2_put_64 ?_
  refine J_iload C 0 dX2_put_67 rfl ?_
  refine cald hG C 20 24 (by decide) dX2_put_69 (by omega) (by omega) ?_
  refine J_top (b := x) (rd_a (by omega) (rd_a (by omega) (rd_e (by omega)))) ?_
  refine J_aload_n C 2 dX2_put_70 rfl ?_
  refine g_X2_21 hG C dX2_put_71 ?_
  refine J_iload_n C 3 dX2_put_74 rfl ?_
  refine J_iload_n C 4 dX2_put_75 rfl ?_
  refine J_iload C 1 dX2_put_76 rfl ?_
  refine J_callV (k := 1) (rest := [.int (iI (x)), .int (iI (((b) * (3)) + (0))), .ref (jad G 21)]) C (c_extent hG (up2 (up2 (up2 (up2 S 19 (b) (t)) 20 ((b) * (3)) (x)) 20 (((b) * (3)) + (1)) (y)) 20 (((b) * (3)) + (2)) (z)) (b) (t) (0) (by omega) (by omega) (by omega)) kc_X4_extent kl_X2_29 (by rw [hG.2]; decide) (by rw [hG.1]; rfl) rfl dX2_put_78 rfl rfl (by decide) (Nat.le_of_ble_eq_true rfl) (J_ki (fun v2 S2 h2 => ?_))
  obtain ⟨rfl, rfl⟩ := h2
  refine J_top (b := pext (S 3) (b) (t) (0)) rfl ?_
  have q1 := pext_in hk (b := b) (t := t) (a := 0) (by omega) (by omega)
  refine J_iadd C dX2_put_81 ?_
  refine cast hG C 21 24 (by decide) dX2_put_82 (by omega) (by omega) ?_
  refine J_iinc (lv' := [(6, .int (iI (1))), (7, .int (iI (((b) * (3)) + (0)))), (0, .ref (jad G 18)), (1, .int (iI (b))), (2, .int (iI (t))), (3, .int (iI (x))), (4, .int (iI (y))), (5, .int (iI (z)))]) C 1 dX2_put_83 rfl (by decide) rfl ?_
  refine J_goto C 43 dX2_put_86 (by decide) ?_
  refine J_iload C 0 dX2_put_43 rfl ?_
  refine J_iconst C dX2_put_45 ?_
  refine J_icmp_ge C 89 dX2_put_46 (by decide) (by omega) (by omega) (fun h => absurd h (by omega)) (fun _ => ?_)
  refine J_iload_n C 3 dX2_put_49 rfl ?_
  refine J_iconst C dX2_put_50 ?_
  refine J_imul C dX2_put_51 ?_
  refine J_iload C 0 dX2_put_52 rfl ?_
  refine J_iadd C dX2_put_54 ?_
  refine J_istore (lv' := [(7, .int (iI (((b) * (3)) + (1)))), (6, .int (iI (1))), (0, .ref (jad G 18)), (1, .int (iI (b))), (2, .int (iI (t))), (3, .int (iI (x))), (4, .int (iI (y))), (5, .int (iI (z)))]) C dX2_put_55 (by decide) rfl ?_
  refine J_aload_n C 2 dX2_put_57 rfl ?_
  refine g_X2_18 hG C dX2_put_58 ?_
  refine J_iload C 0 dX2_put_61 rfl ?_
  refine J_aload_n C 2 dX2_put_63 rfl ?_
  refine g_X2_15 hG C dX2_put_64 ?_
  refine J_iload C 0 dX2_put_67 rfl ?_
  refine cald hG C 20 24 (by decide) dX2_put_69 (by omega) (by omega) ?_
  refine J_top (b := y) (rd_k (by decide) (rd_a (by omega) (rd_e (by omega)))) ?_
  refine J_aload_n C 2 dX2_put_70 rfl ?_
  refine g_X2_21 hG C dX2_put_71 ?_
  refine J_iload_n C 3 dX2_put_74 rfl ?_
  refine J_iload_n C 4 dX2_put_75 rfl ?_
  refine J_iload C 1 dX2_put_76 rfl ?_
  refine J_callV (k := 1) (rest := [.int (iI (y)), .int (iI (((b) * (3)) + (1))), .ref (jad G 21)]) C (c_extent hG (up2 (up2 (up2 (up2 (up2 S 19 (b) (t)) 20 ((b) * (3)) (x)) 20 (((b) * (3)) + (1)) (y)) 20 (((b) * (3)) + (2)) (z)) 21 (((b) * (3)) + (0)) ((x) + (pext (S 3) (b) (t) (0)))) (b) (t) (1) (by omega) (by omega) (by omega)) kc_X4_extent kl_X2_29 (by rw [hG.2]; decide) (by rw [hG.1]; rfl) rfl dX2_put_78 rfl rfl (by decide) (Nat.le_of_ble_eq_true rfl) (J_ki (fun v4 S4 h4 => ?_))
  obtain ⟨rfl, rfl⟩ := h4
  refine J_top (b := pext (S 3) (b) (t) (1)) rfl ?_
  have q2 := pext_in hk (b := b) (t := t) (a := 1) (by omega) (by omega)
  refine J_iadd C dX2_put_81 ?_
  refine cast hG C 21 24 (by decide) dX2_put_82 (by omega) (by omega) ?_
  refine J_iinc (lv' := [(6, .int (iI (2))), (7, .int (iI (((b) * (3)) + (1)))), (0, .ref (jad G 18)), (1, .int (iI (b))), (2, .int (iI (t))), (3, .int (iI (x))), (4, .int (iI (y))), (5, .int (iI (z)))]) C 1 dX2_put_83 rfl (by decide) rfl ?_
  refine J_goto C 43 dX2_put_86 (by decide) ?_
  refine J_iload C 0 dX2_put_43 rfl ?_
  refine J_iconst C dX2_put_45 ?_
  refine J_icmp_ge C 89 dX2_put_46 (by decide) (by omega) (by omega) (fun h => absurd h (by omega)) (fun _ => ?_)
  refine J_iload_n C 3 dX2_put_49 rfl ?_
  refine J_iconst C dX2_put_50 ?_
  refine J_imul C dX2_put_51 ?_
  refine J_iload C 0 dX2_put_52 rfl ?_
  refine J_iadd C dX2_put_54 ?_
  refine J_istore (lv' := [(7, .int (iI (((b) * (3)) + (2)))), (6, .int (iI (2))), (0, .ref (jad G 18)), (1, .int (iI (b))), (2, .int (iI (t))), (3, .int (iI (x))), (4, .int (iI (y))), (5, .int (iI (z)))]) C dX2_put_55 (by decide) rfl ?_
  refine J_aload_n C 2 dX2_put_57 rfl ?_
  refine g_X2_18 hG C dX2_put_58 ?_
  refine J_iload C 0 dX2_put_61 rfl ?_
  refine J_aload_n C 2 dX2_put_63 rfl ?_
  refine g_X2_15 hG C dX2_put_64 ?_
  refine J_iload C 0 dX2_put_67 rfl ?_
  refine cald hG C 20 24 (by decide) dX2_put_69 (by omega) (by omega) ?_
  refine J_top (b := z) (rd_k (by decide) (rd_k (by decide) (rd_e (by omega)))) ?_
  refine J_aload_n C 2 dX2_put_70 rfl ?_
  refine g_X2_21 hG C dX2_put_71 ?_
  refine J_iload_n C 3 dX2_put_74 rfl ?_
  refine J_iload_n C 4 dX2_put_75 rfl ?_
  refine J_iload C 1 dX2_put_76 rfl ?_
  refine J_callV (k := 1) (rest := [.int (iI (z)), .int (iI (((b) * (3)) + (2))), .ref (jad G 21)]) C (c_extent hG (up2 (up2 (up2 (up2 (up2 (up2 S 19 (b) (t)) 20 ((b) * (3)) (x)) 20 (((b) * (3)) + (1)) (y)) 20 (((b) * (3)) + (2)) (z)) 21 (((b) * (3)) + (0)) ((x) + (pext (S 3) (b) (t) (0)))) 21 (((b) * (3)) + (1)) ((y) + (pext (S 3) (b) (t) (1)))) (b) (t) (2) (by omega) (by omega) (by omega)) kc_X4_extent kl_X2_29 (by rw [hG.2]; decide) (by rw [hG.1]; rfl) rfl dX2_put_78 rfl rfl (by decide) (Nat.le_of_ble_eq_true rfl) (J_ki (fun v6 S6 h6 => ?_))
  obtain ⟨rfl, rfl⟩ := h6
  refine J_top (b := pext (S 3) (b) (t) (2)) rfl ?_
  have q3 := pext_in hk (b := b) (t := t) (a := 2) (by omega) (by omega)
  refine J_iadd C dX2_put_81 ?_
  refine cast hG C 21 24 (by decide) dX2_put_82 (by omega) (by omega) ?_
  refine J_iinc (lv' := [(6, .int (iI (3))), (7, .int (iI (((b) * (3)) + (2)))), (0, .ref (jad G 18)), (1, .int (iI (b))), (2, .int (iI (t))), (3, .int (iI (x))), (4, .int (iI (y))), (5, .int (iI (z)))]) C 1 dX2_put_83 rfl (by decide) rfl ?_
  refine J_goto C 43 dX2_put_86 (by decide) ?_
  refine J_iload C 0 dX2_put_43 rfl ?_
  refine J_iconst C dX2_put_45 ?_
  refine J_icmp_ge C 89 dX2_put_46 (by decide) (by omega) (by omega) (fun _ => ?_) (fun h => absurd h (by omega))
  refine J_aload_n C 2 dX2_put_89 rfl ?_
  refine J_dup C dX2_put_90 rfl ?_
  refine g_X2_25 hG C dX2_put_91 ?_
  refine J_top (b := S 18 4) (rd_k (by decide) (rd_k (by decide) (rd_k (by decide) (rd_k (by decide) (rd_k (by decide) (rd_k (by decide) (rd_k (by decide) (rfl)))))))) ?_
  refine J_iconst C dX2_put_94 ?_
  refine J_iload_n C 3 dX2_put_95 rfl ?_
  refine J_ishl C dX2_put_96 (by omega) (by omega) ?_
  refine J_ior C (zor (S 18 4) ((1) * 2 ^ (b).toNat)) dX2_put_97 (iI_zor (by omega) (by omega) (by omega) (by omega)) ?_
  refine p_X2_25 hG C dX2_put_98 ?_
  exact J_vret R C dX2_put_101 (jPv.mk (by rfl))
theorem c_takeAway {G : jG} (hG : cG G) (S : jMem) (b : Int) (hl : lOK S) (hb : 0 ≤ b ∧ b < 8) : jM G yX2_takeAway cX2_takeAway 2 none 0 0 [.ref (jad G 18), .int (iI (b))] S (jPv (fun S' => up2 S 18 4 (zandn (S 18 4) (1 * 2 ^ b.toNat)) = S')) := by
  refine jM.of (by decide) (Nat.le_of_ble_eq_true rfl) (fun E C R => ?_)
  show J E G 0 [(0, .ref (jad G 18)), (1, .int (iI (b)))] [] _
  have hm := hl.1
  have hp := zpow_in hb.1 hb.2
  refine J_aload_n C 0 dX2_takeAway_0 rfl ?_
  refine J_dup C dX2_takeAway_1 rfl ?_
  refine g_X2_25 hG C dX2_takeAway_2 ?_
  refine J_iconst C dX2_takeAway_5 ?_
  refine J_iload_n C 1 dX2_takeAway_6 rfl ?_
  refine J_ishl C dX2_takeAway_7 (by omega) (by omega) ?_
  refine J_iconst C dX2_takeAway_8 ?_
  refine J_ixor C (-((1) * 2 ^ (b).toNat) - 1) dX2_takeAway_9 (iI_not _) ?_
  refine J_iand C (zandn (S 18 4) ((1) * 2 ^ (b).toNat)) dX2_takeAway_10 (iI_zandn (by omega) (by omega) (by omega) (by omega)) ?_
  refine p_X2_25 hG C dX2_takeAway_11 ?_
  exact J_vret R C dX2_takeAway_14 (jPv.mk (by rfl))
theorem c_takeAll {G : jG} (hG : cG G) (S : jMem) : jM G yX2_takeAllAway cX2_takeAllAway 1 none 0 0 [.ref (jad G 18)] S (jPv (fun S' => up2 S 18 4 0 = S')) := by
  refine jM.of (by decide) (Nat.le_of_ble_eq_true rfl) (fun E C R => ?_)
  show J E G 0 [(0, .ref (jad G 18))] [] _
  refine J_aload_n C 0 dX2_takeAllAway_0 rfl ?_
  refine J_iconst C dX2_takeAllAway_1 ?_
  refine p_X2_25 hG C dX2_takeAllAway_2 ?_
  exact J_vret R C dX2_takeAllAway_5 (jPv.mk (by rfl))
end
section
theorem dX1_init_0 : decode cX1_init 0 = .ok (.aload_n 0, 1) := by decide +kernel
theorem dX1_init_1 : decode cX1_init 1 = .ok (.invokespecial 3, 3) := by decide +kernel
theorem dX1_init_4 : decode cX1_init 4 = .ok (.aload_n 0, 1) := by decide +kernel
theorem dX1_init_5 : decode cX1_init 5 = .ok (.iconst 4, 1) := by decide +kernel
theorem dX1_init_6 : decode cX1_init 6 = .ok (.newarray .int, 2) := by decide +kernel
theorem dX1_init_8 : decode cX1_init 8 = .ok (.putfield 9, 3) := by decide +kernel
theorem dX1_init_11 : decode cX1_init 11 = .ok (.aload_n 0, 1) := by decide +kernel
theorem dX1_init_12 : decode cX1_init 12 = .ok (.sipush 1323, 3) := by decide +kernel
theorem dX1_init_15 : decode cX1_init 15 = .ok (.newarray .int, 2) := by decide +kernel
theorem dX1_init_17 : decode cX1_init 17 = .ok (.putfield 15, 3) := by decide +kernel
theorem dX1_init_20 : decode cX1_init 20 = .ok (.aload_n 0, 1) := by decide +kernel
theorem dX1_init_21 : decode cX1_init 21 = .ok (.sipush 144, 3) := by decide +kernel
theorem dX1_init_24 : decode cX1_init 24 = .ok (.newarray .int, 2) := by decide +kernel
theorem dX1_init_26 : decode cX1_init 26 = .ok (.putfield 18, 3) := by decide +kernel
theorem dX1_init_29 : decode cX1_init 29 = .ok (.aload_n 0, 1) := by decide +kernel
theorem dX1_init_30 : decode cX1_init 30 = .ok (.bipush 9, 2) := by decide +kernel
theorem dX1_init_32 : decode cX1_init 32 = .ok (.newarray .int, 2) := by decide +kernel
theorem dX1_init_34 : decode cX1_init 34 = .ok (.putfield 21, 3) := by decide +kernel
theorem dX1_init_37 : decode cX1_init 37 = .ok (.aload_n 0, 1) := by decide +kernel
theorem dX1_init_38 : decode cX1_init 38 = .ok (.bipush 48, 2) := by decide +kernel
theorem dX1_init_40 : decode cX1_init 40 = .ok (.newarray .int, 2) := by decide +kernel
theorem dX1_init_42 : decode cX1_init 42 = .ok (.putfield 24, 3) := by decide +kernel
theorem dX1_init_45 : decode cX1_init 45 = .ok (.aload_n 0, 1) := by decide +kernel
theorem dX1_init_46 : decode cX1_init 46 = .ok (.iconst 3, 1) := by decide +kernel
theorem dX1_init_47 : decode cX1_init 47 = .ok (.newarray .int, 2) := by decide +kernel
theorem dX1_init_49 : decode cX1_init 49 = .ok (.putfield 27, 3) := by decide +kernel
theorem dX1_init_52 : decode cX1_init 52 = .ok (.aload_n 0, 1) := by decide +kernel
theorem dX1_init_53 : decode cX1_init 53 = .ok (.aload_n 1, 1) := by decide +kernel
theorem dX1_init_54 : decode cX1_init 54 = .ok (.putfield 30, 3) := by decide +kernel
theorem dX1_init_57 : decode cX1_init 57 = .ok (.return_, 1) := by decide +kernel
theorem dX1_forget_0 : decode cX1_forget 0 = .ok (.aload_n 0, 1) := by decide +kernel
theorem dX1_forget_1 : decode cX1_forget 1 = .ok (.iconst 0, 1) := by decide +kernel
theorem dX1_forget_2 : decode cX1_forget 2 = .ok (.putfield 34, 3) := by decide +kernel
theorem dX1_forget_5 : decode cX1_forget 5 = .ok (.aload_n 0, 1) := by decide +kernel
theorem dX1_forget_6 : decode cX1_forget 6 = .ok (.iconst 0, 1) := by decide +kernel
theorem dX1_forget_7 : decode cX1_forget 7 = .ok (.putfield 38, 3) := by decide +kernel
theorem dX1_forget_10 : decode cX1_forget 10 = .ok (.return_, 1) := by decide +kernel
theorem dX1_lastFunction_0 : decode cX1_lastFunction 0 = .ok (.aload_n 0, 1) := by decide +kernel
theorem dX1_lastFunction_1 : decode cX1_lastFunction 1 = .ok (.getfield 30, 3) := by decide +kernel
theorem dX1_lastFunction_4 : decode cX1_lastFunction 4 = .ok (.getfield 41, 3) := by decide +kernel
theorem dX1_lastFunction_7 : decode cX1_lastFunction 7 = .ok (.iload_n 1, 1) := by decide +kernel
theorem dX1_lastFunction_8 : decode cX1_lastFunction 8 = .ok (.iaload, 1) := by decide +kernel
theorem dX1_lastFunction_9 : decode cX1_lastFunction 9 = .ok (.iconst 2, 1) := by decide +kernel
theorem dX1_lastFunction_10 : decode cX1_lastFunction 10 = .ok (.idiv, 1) := by decide +kernel
theorem dX1_lastFunction_11 : decode cX1_lastFunction 11 = .ok (.iconst 2, 1) := by decide +kernel
theorem dX1_lastFunction_12 : decode cX1_lastFunction 12 = .ok (.imul, 1) := by decide +kernel
theorem dX1_lastFunction_13 : decode cX1_lastFunction 13 = .ok (.ireturn, 1) := by decide +kernel
theorem dX1_isFunction_0 : decode cX1_isFunction 0 = .ok (.iload_n 2, 1) := by decide +kernel
theorem dX1_isFunction_1 : decode cX1_isFunction 1 = .ok (.ifCond .lt 16, 3) := by decide +kernel
theorem dX1_isFunction_4 : decode cX1_isFunction 4 = .ok (.iload_n 2, 1) := by decide +kernel
theorem dX1_isFunction_5 : decode cX1_isFunction 5 = .ok (.aload_n 0, 1) := by decide +kernel
theorem dX1_isFunction_6 : decode cX1_isFunction 6 = .ok (.iload_n 1, 1) := by decide +kernel
theorem dX1_isFunction_7 : decode cX1_isFunction 7 = .ok (.invokevirtual 46, 3) := by decide +kernel
theorem dX1_isFunction_10 : decode cX1_isFunction 10 = .ok (.if_icmp .gt 7, 3) := by decide +kernel
theorem dX1_isFunction_13 : decode cX1_isFunction 13 = .ok (.iconst 1, 1) := by decide +kernel
theorem dX1_isFunction_14 : decode cX1_isFunction 14 = .ok (.goto 4, 3) := by decide +kernel
theorem dX1_isFunction_17 : decode cX1_isFunction 17 = .ok (.iconst 0, 1) := by decide +kernel
theorem dX1_isFunction_18 : decode cX1_isFunction 18 = .ok (.ireturn, 1) := by decide +kernel
theorem dX1_valueOf_0 : decode cX1_valueOf 0 = .ok (.iload_n 1, 1) := by decide +kernel
theorem dX1_valueOf_1 : decode cX1_valueOf 1 = .ok (.ifCond .ne 5, 3) := by decide +kernel
theorem dX1_valueOf_4 : decode cX1_valueOf 4 = .ok (.iload_n 2, 1) := by decide +kernel
theorem dX1_valueOf_5 : decode cX1_valueOf 5 = .ok (.ireturn, 1) := by decide +kernel
theorem dX1_valueOf_6 : decode cX1_valueOf 6 = .ok (.iload_n 0, 1) := by decide +kernel
theorem dX1_valueOf_7 : decode cX1_valueOf 7 = .ok (.iconst 2, 1) := by decide +kernel
theorem dX1_valueOf_8 : decode cX1_valueOf 8 = .ok (.idiv, 1) := by decide +kernel
theorem dX1_valueOf_9 : decode cX1_valueOf 9 = .ok (.istore_n 3, 1) := by decide +kernel
theorem dX1_valueOf_10 : decode cX1_valueOf 10 = .ok (.iload_n 1, 1) := by decide +kernel
theorem dX1_valueOf_11 : decode cX1_valueOf 11 = .ok (.iload_n 3, 1) := by decide +kernel
theorem dX1_valueOf_12 : decode cX1_valueOf 12 = .ok (.if_icmp .gt 25, 3) := by decide +kernel
theorem dX1_valueOf_15 : decode cX1_valueOf 15 = .ok (.iload_n 2, 1) := by decide +kernel
theorem dX1_valueOf_16 : decode cX1_valueOf 16 = .ok (.iload_n 0, 1) := by decide +kernel
theorem dX1_valueOf_17 : decode cX1_valueOf 17 = .ok (.iload_n 1, 1) := by decide +kernel
theorem dX1_valueOf_18 : decode cX1_valueOf 18 = .ok (.isub, 1) := by decide +kernel
theorem dX1_valueOf_19 : decode cX1_valueOf 19 = .ok (.if_icmp .le 7, 3) := by decide +kernel
theorem dX1_valueOf_22 : decode cX1_valueOf 22 = .ok (.iload_n 0, 1) := by decide +kernel
theorem dX1_valueOf_23 : decode cX1_valueOf 23 = .ok (.goto 13, 3) := by decide +kernel
theorem dX1_valueOf_26 : decode cX1_valueOf 26 = .ok (.iload_n 2, 1) := by decide +kernel
theorem dX1_valueOf_27 : decode cX1_valueOf 27 = .ok (.iload_n 1, 1) := by decide +kernel
theorem dX1_valueOf_28 : decode cX1_valueOf 28 = .ok (.if_icmp .ge 7, 3) := by decide +kernel
theorem dX1_valueOf_31 : decode cX1_valueOf 31 = .ok (.iconst 0, 1) := by decide +kernel
theorem dX1_valueOf_32 : decode cX1_valueOf 32 = .ok (.goto 4, 3) := by decide +kernel
theorem dX1_valueOf_35 : decode cX1_valueOf 35 = .ok (.iload_n 2, 1) := by decide +kernel
theorem dX1_valueOf_36 : decode cX1_valueOf 36 = .ok (.ireturn, 1) := by decide +kernel
theorem dX1_valueOf_37 : decode cX1_valueOf 37 = .ok (.iload_n 1, 1) := by decide +kernel
theorem dX1_valueOf_38 : decode cX1_valueOf 38 = .ok (.iload_n 3, 1) := by decide +kernel
theorem dX1_valueOf_39 : decode cX1_valueOf 39 = .ok (.isub, 1) := by decide +kernel
theorem dX1_valueOf_40 : decode cX1_valueOf 40 = .ok (.istore 4, 2) := by decide +kernel
theorem dX1_valueOf_42 : decode cX1_valueOf 42 = .ok (.iload_n 0, 1) := by decide +kernel
theorem dX1_valueOf_43 : decode cX1_valueOf 43 = .ok (.iload 4, 2) := by decide +kernel
theorem dX1_valueOf_45 : decode cX1_valueOf 45 = .ok (.idiv, 1) := by decide +kernel
theorem dX1_valueOf_46 : decode cX1_valueOf 46 = .ok (.istore 5, 2) := by decide +kernel
theorem dX1_valueOf_48 : decode cX1_valueOf 48 = .ok (.iconst 2, 1) := by decide +kernel
theorem dX1_valueOf_49 : decode cX1_valueOf 49 = .ok (.iload_n 2, 1) := by decide +kernel
theorem dX1_valueOf_50 : decode cX1_valueOf 50 = .ok (.imul, 1) := by decide +kernel
theorem dX1_valueOf_51 : decode cX1_valueOf 51 = .ok (.iload_n 0, 1) := by decide +kernel
theorem dX1_valueOf_52 : decode cX1_valueOf 52 = .ok (.if_icmp .ge 10, 3) := by decide +kernel
theorem dX1_valueOf_55 : decode cX1_valueOf 55 = .ok (.iconst 2, 1) := by decide +kernel
theorem dX1_valueOf_56 : decode cX1_valueOf 56 = .ok (.iload_n 2, 1) := by decide +kernel
theorem dX1_valueOf_57 : decode cX1_valueOf 57 = .ok (.iload 4, 2) := by decide +kernel
theorem dX1_valueOf_59 : decode cX1_valueOf 59 = .ok (.idiv, 1) := by decide +kernel
theorem dX1_valueOf_60 : decode cX1_valueOf 60 = .ok (.imul, 1) := by decide +kernel
theorem dX1_valueOf_61 : decode cX1_valueOf 61 = .ok (.ireturn, 1) := by decide +kernel
theorem dX1_valueOf_62 : decode cX1_valueOf 62 = .ok (.iconst 2, 1) := by decide +kernel
theorem dX1_valueOf_63 : decode cX1_valueOf 63 = .ok (.iload_n 2, 1) := by decide +kernel
theorem dX1_valueOf_64 : decode cX1_valueOf 64 = .ok (.imul, 1) := by decide +kernel
theorem dX1_valueOf_65 : decode cX1_valueOf 65 = .ok (.iload_n 0, 1) := by decide +kernel
theorem dX1_valueOf_66 : decode cX1_valueOf 66 = .ok (.if_icmp .ne 8, 3) := by decide +kernel
theorem dX1_valueOf_69 : decode cX1_valueOf 69 = .ok (.iload 5, 2) := by decide +kernel
theorem dX1_valueOf_71 : decode cX1_valueOf 71 = .ok (.goto 14, 3) := by decide +kernel
theorem dX1_valueOf_74 : decode cX1_valueOf 74 = .ok (.iconst 2, 1) := by decide +kernel
theorem dX1_valueOf_75 : decode cX1_valueOf 75 = .ok (.iload 5, 2) := by decide +kernel
theorem dX1_valueOf_77 : decode cX1_valueOf 77 = .ok (.iload_n 0, 1) := by decide +kernel
theorem dX1_valueOf_78 : decode cX1_valueOf 78 = .ok (.iload_n 2, 1) := by decide +kernel
theorem dX1_valueOf_79 : decode cX1_valueOf 79 = .ok (.isub, 1) := by decide +kernel
theorem dX1_valueOf_80 : decode cX1_valueOf 80 = .ok (.iload 4, 2) := by decide +kernel
theorem dX1_valueOf_82 : decode cX1_valueOf 82 = .ok (.idiv, 1) := by decide +kernel
theorem dX1_valueOf_83 : decode cX1_valueOf 83 = .ok (.isub, 1) := by decide +kernel
theorem dX1_valueOf_84 : decode cX1_valueOf 84 = .ok (.imul, 1) := by decide +kernel
theorem dX1_valueOf_85 : decode cX1_valueOf 85 = .ok (.ireturn, 1) := by decide +kernel
theorem dX1_prepare_0 : decode cX1_prepare 0 = .ok (.aload_n 0, 1) := by decide +kernel
theorem dX1_prepare_1 : decode cX1_prepare 1 = .ok (.getfield 34, 3) := by decide +kernel
theorem dX1_prepare_4 : decode cX1_prepare 4 = .ok (.ifCond .eq 4, 3) := by decide +kernel
theorem dX1_prepare_7 : decode cX1_prepare 7 = .ok (.return_, 1) := by decide +kernel
theorem dX1_prepare_8 : decode cX1_prepare 8 = .ok (.aload_n 0, 1) := by decide +kernel
theorem dX1_prepare_9 : decode cX1_prepare 9 = .ok (.iconst 1, 1) := by decide +kernel
theorem dX1_prepare_10 : decode cX1_prepare 10 = .ok (.putfield 34, 3) := by decide +kernel
theorem dX1_prepare_13 : decode cX1_prepare 13 = .ok (.iconst 0, 1) := by decide +kernel
theorem dX1_prepare_14 : decode cX1_prepare 14 = .ok (.istore_n 1, 1) := by decide +kernel
theorem dX1_prepare_15 : decode cX1_prepare 15 = .ok (.iload_n 1, 1) := by decide +kernel
theorem dX1_prepare_16 : decode cX1_prepare 16 = .ok (.iconst 3, 1) := by decide +kernel
theorem dX1_prepare_17 : decode cX1_prepare 17 = .ok (.if_icmp .ge 14, 3) := by decide +kernel
theorem dX1_prepare_20 : decode cX1_prepare 20 = .ok (.aload_n 0, 1) := by decide +kernel
theorem dX1_prepare_21 : decode cX1_prepare 21 = .ok (.iload_n 1, 1) := by decide +kernel
theorem dX1_prepare_22 : decode cX1_prepare 22 = .ok (.invokevirtual 50, 3) := by decide +kernel
theorem dX1_prepare_25 : decode cX1_prepare 25 = .ok (.iinc 1 1, 3) := by decide +kernel
theorem dX1_prepare_28 : decode cX1_prepare 28 = .ok (.goto (-13), 3) := by decide +kernel
theorem dX1_prepare_31 : decode cX1_prepare 31 = .ok (.iconst 0, 1) := by decide +kernel
theorem dX1_prepare_32 : decode cX1_prepare 32 = .ok (.istore_n 1, 1) := by decide +kernel
theorem dX1_prepare_33 : decode cX1_prepare 33 = .ok (.iconst 0, 1) := by decide +kernel
theorem dX1_prepare_34 : decode cX1_prepare 34 = .ok (.istore_n 2, 1) := by decide +kernel
theorem dX1_prepare_35 : decode cX1_prepare 35 = .ok (.iload_n 2, 1) := by decide +kernel
theorem dX1_prepare_36 : decode cX1_prepare 36 = .ok (.aload_n 0, 1) := by decide +kernel
theorem dX1_prepare_37 : decode cX1_prepare 37 = .ok (.getfield 30, 3) := by decide +kernel
theorem dX1_prepare_40 : decode cX1_prepare 40 = .ok (.getfield 54, 3) := by decide +kernel
theorem dX1_prepare_43 : decode cX1_prepare 43 = .ok (.if_icmp .ge 23, 3) := by decide +kernel
theorem dX1_prepare_46 : decode cX1_prepare 46 = .ok (.aload_n 0, 1) := by decide +kernel
theorem dX1_prepare_47 : decode cX1_prepare 47 = .ok (.getfield 21, 3) := by decide +kernel
theorem dX1_prepare_50 : decode cX1_prepare 50 = .ok (.iload_n 2, 1) := by decide +kernel
theorem dX1_prepare_51 : decode cX1_prepare 51 = .ok (.iload_n 1, 1) := by decide +kernel
theorem dX1_prepare_52 : decode cX1_prepare 52 = .ok (.iastore, 1) := by decide +kernel
theorem dX1_prepare_53 : decode cX1_prepare 53 = .ok (.aload_n 0, 1) := by decide +kernel
theorem dX1_prepare_54 : decode cX1_prepare 54 = .ok (.iload_n 2, 1) := by decide +kernel
theorem dX1_prepare_55 : decode cX1_prepare 55 = .ok (.iload_n 1, 1) := by decide +kernel
theorem dX1_prepare_56 : decode cX1_prepare 56 = .ok (.invokevirtual 58, 3) := by decide +kernel
theorem dX1_prepare_59 : decode cX1_prepare 59 = .ok (.istore_n 1, 1) := by decide +kernel
theorem dX1_prepare_60 : decode cX1_prepare 60 = .ok (.iinc 2 1, 3) := by decide +kernel
theorem dX1_prepare_63 : decode cX1_prepare 63 = .ok (.goto (-28), 3) := by decide +kernel
theorem dX1_prepare_66 : decode cX1_prepare 66 = .ok (.aload_n 0, 1) := by decide +kernel
theorem dX1_prepare_67 : decode cX1_prepare 67 = .ok (.getfield 21, 3) := by decide +kernel
theorem dX1_prepare_70 : decode cX1_prepare 70 = .ok (.aload_n 0, 1) := by decide +kernel
theorem dX1_prepare_71 : decode cX1_prepare 71 = .ok (.getfield 30, 3) := by decide +kernel
theorem dX1_prepare_74 : decode cX1_prepare 74 = .ok (.getfield 54, 3) := by decide +kernel
theorem dX1_prepare_77 : decode cX1_prepare 77 = .ok (.iload_n 1, 1) := by decide +kernel
theorem dX1_prepare_78 : decode cX1_prepare 78 = .ok (.iastore, 1) := by decide +kernel
theorem dX1_prepare_79 : decode cX1_prepare 79 = .ok (.return_, 1) := by decide +kernel
theorem dX1_tellValues_0 : decode cX1_tellValues 0 = .ok (.aload_n 0, 1) := by decide +kernel
theorem dX1_tellValues_1 : decode cX1_tellValues 1 = .ok (.getfield 30, 3) := by decide +kernel
theorem dX1_tellValues_4 : decode cX1_tellValues 4 = .ok (.getfield 41, 3) := by decide +kernel
theorem dX1_tellValues_7 : decode cX1_tellValues 7 = .ok (.iload_n 1, 1) := by decide +kernel
theorem dX1_tellValues_8 : decode cX1_tellValues 8 = .ok (.iaload, 1) := by decide +kernel
theorem dX1_tellValues_9 : decode cX1_tellValues 9 = .ok (.istore_n 2, 1) := by decide +kernel
theorem dX1_tellValues_10 : decode cX1_tellValues 10 = .ok (.iconst 0, 1) := by decide +kernel
theorem dX1_tellValues_11 : decode cX1_tellValues 11 = .ok (.istore_n 3, 1) := by decide +kernel
theorem dX1_tellValues_12 : decode cX1_tellValues 12 = .ok (.iload_n 3, 1) := by decide +kernel
theorem dX1_tellValues_13 : decode cX1_tellValues 13 = .ok (.aload_n 0, 1) := by decide +kernel
theorem dX1_tellValues_14 : decode cX1_tellValues 14 = .ok (.iload_n 1, 1) := by decide +kernel
theorem dX1_tellValues_15 : decode cX1_tellValues 15 = .ok (.invokevirtual 46, 3) := by decide +kernel
theorem dX1_tellValues_18 : decode cX1_tellValues 18 = .ok (.if_icmp .gt 48, 3) := by decide +kernel
theorem dX1_tellValues_21 : decode cX1_tellValues 21 = .ok (.iconst 0, 1) := by decide +kernel
theorem dX1_tellValues_22 : decode cX1_tellValues 22 = .ok (.istore 4, 2) := by decide +kernel
theorem dX1_tellValues_24 : decode cX1_tellValues 24 = .ok (.iload 4, 2) := by decide +kernel
theorem dX1_tellValues_26 : decode cX1_tellValues 26 = .ok (.iload_n 2, 1) := by decide +kernel
theorem dX1_tellValues_27 : decode cX1_tellValues 27 = .ok (.if_icmp .gt 33, 3) := by decide +kernel
theorem dX1_tellValues_30 : decode cX1_tellValues 30 = .ok (.aload_n 0, 1) := by decide +kernel
theorem dX1_tellValues_31 : decode cX1_tellValues 31 = .ok (.getfield 15, 3) := by decide +kernel
theorem dX1_tellValues_34 : decode cX1_tellValues 34 = .ok (.iload_n 1, 1) := by decide +kernel
theorem dX1_tellValues_35 : decode cX1_tellValues 35 = .ok (.bipush 21, 2) := by decide +kernel
theorem dX1_tellValues_37 : decode cX1_tellValues 37 = .ok (.imul, 1) := by decide +kernel
theorem dX1_tellValues_38 : decode cX1_tellValues 38 = .ok (.iload_n 3, 1) := by decide +kernel
theorem dX1_tellValues_39 : decode cX1_tellValues 39 = .ok (.iadd, 1) := by decide +kernel
theorem dX1_tellValues_40 : decode cX1_tellValues 40 = .ok (.bipush 21, 2) := by decide +kernel
theorem dX1_tellValues_42 : decode cX1_tellValues 42 = .ok (.imul, 1) := by decide +kernel
theorem dX1_tellValues_43 : decode cX1_tellValues 43 = .ok (.iload 4, 2) := by decide +kernel
theorem dX1_tellValues_45 : decode cX1_tellValues 45 = .ok (.iadd, 1) := by decide +kernel
theorem dX1_tellValues_46 : decode cX1_tellValues 46 = .ok (.iload_n 2, 1) := by decide +kernel
theorem dX1_tellValues_47 : decode cX1_tellValues 47 = .ok (.iload_n 3, 1) := by decide +kernel
theorem dX1_tellValues_48 : decode cX1_tellValues 48 = .ok (.iload 4, 2) := by decide +kernel
theorem dX1_tellValues_50 : decode cX1_tellValues 50 = .ok (.invokestatic 62, 3) := by decide +kernel
theorem dX1_tellValues_53 : decode cX1_tellValues 53 = .ok (.iastore, 1) := by decide +kernel
theorem dX1_tellValues_54 : decode cX1_tellValues 54 = .ok (.iinc 4 1, 3) := by decide +kernel
theorem dX1_tellValues_57 : decode cX1_tellValues 57 = .ok (.goto (-33), 3) := by decide +kernel
theorem dX1_tellValues_60 : decode cX1_tellValues 60 = .ok (.iinc 3 1, 3) := by decide +kernel
theorem dX1_tellValues_63 : decode cX1_tellValues 63 = .ok (.goto (-51), 3) := by decide +kernel
theorem dX1_tellValues_66 : decode cX1_tellValues 66 = .ok (.return_, 1) := by decide +kernel
theorem dX1_tellTurns_0 : decode cX1_tellTurns 0 = .ok (.iload_n 2, 1) := by decide +kernel
theorem dX1_tellTurns_1 : decode cX1_tellTurns 1 = .ok (.istore_n 3, 1) := by decide +kernel
theorem dX1_tellTurns_2 : decode cX1_tellTurns 2 = .ok (.iconst 0, 1) := by decide +kernel
theorem dX1_tellTurns_3 : decode cX1_tellTurns 3 = .ok (.istore 4, 2) := by decide +kernel
theorem dX1_tellTurns_5 : decode cX1_tellTurns 5 = .ok (.iload 4, 2) := by decide +kernel
theorem dX1_tellTurns_7 : decode cX1_tellTurns 7 = .ok (.bipush 6, 2) := by decide +kernel
theorem dX1_tellTurns_9 : decode cX1_tellTurns 9 = .ok (.if_icmp .ge 63, 3) := by decide +kernel
theorem dX1_tellTurns_12 : decode cX1_tellTurns 12 = .ok (.aload_n 0, 1) := by decide +kernel
theorem dX1_tellTurns_13 : decode cX1_tellTurns 13 = .ok (.getfield 30, 3) := by decide +kernel
theorem dX1_tellTurns_16 : decode cX1_tellTurns 16 = .ok (.iload_n 1, 1) := by decide +kernel
theorem dX1_tellTurns_17 : decode cX1_tellTurns 17 = .ok (.iload 4, 2) := by decide +kernel
theorem dX1_tellTurns_19 : decode cX1_tellTurns 19 = .ok (.invokevirtual 66, 3) := by decide +kernel
theorem dX1_tellTurns_22 : decode cX1_tellTurns 22 = .ok (.ifCond .eq 44, 3) := by decide +kernel
theorem dX1_tellTurns_25 : decode cX1_tellTurns 25 = .ok (.iconst 0, 1) := by decide +kernel
theorem dX1_tellTurns_26 : decode cX1_tellTurns 26 = .ok (.istore 5, 2) := by decide +kernel
theorem dX1_tellTurns_28 : decode cX1_tellTurns 28 = .ok (.iload 5, 2) := by decide +kernel
theorem dX1_tellTurns_30 : decode cX1_tellTurns 30 = .ok (.iconst 3, 1) := by decide +kernel
theorem dX1_tellTurns_31 : decode cX1_tellTurns 31 = .ok (.if_icmp .ge 32, 3) := by decide +kernel
theorem dX1_tellTurns_34 : decode cX1_tellTurns 34 = .ok (.aload_n 0, 1) := by decide +kernel
theorem dX1_tellTurns_35 : decode cX1_tellTurns 35 = .ok (.getfield 18, 3) := by decide +kernel
theorem dX1_tellTurns_38 : decode cX1_tellTurns 38 = .ok (.iload_n 3, 1) := by decide +kernel
theorem dX1_tellTurns_39 : decode cX1_tellTurns 39 = .ok (.iconst 3, 1) := by decide +kernel
theorem dX1_tellTurns_40 : decode cX1_tellTurns 40 = .ok (.imul, 1) := by decide +kernel
theorem dX1_tellTurns_41 : decode cX1_tellTurns 41 = .ok (.iload 5, 2) := by decide +kernel
theorem dX1_tellTurns_43 : decode cX1_tellTurns 43 = .ok (.iadd, 1) := by decide +kernel
theorem dX1_tellTurns_44 : decode cX1_tellTurns 44 = .ok (.aload_n 0, 1) := by decide +kernel
theorem dX1_tellTurns_45 : decode cX1_tellTurns 45 = .ok (.getfield 30, 3) := by decide +kernel
theorem dX1_tellTurns_48 : decode cX1_tellTurns 48 = .ok (.iload_n 1, 1) := by decide +kernel
theorem dX1_tellTurns_49 : decode cX1_tellTurns 49 = .ok (.iload 4, 2) := by decide +kernel
theorem dX1_tellTurns_51 : decode cX1_tellTurns 51 = .ok (.iload 5, 2) := by decide +kernel
theorem dX1_tellTurns_53 : decode cX1_tellTurns 53 = .ok (.invokevirtual 70, 3) := by decide +kernel
theorem dX1_tellTurns_56 : decode cX1_tellTurns 56 = .ok (.iastore, 1) := by decide +kernel
theorem dX1_tellTurns_57 : decode cX1_tellTurns 57 = .ok (.iinc 5 1, 3) := by decide +kernel
theorem dX1_tellTurns_60 : decode cX1_tellTurns 60 = .ok (.goto (-32), 3) := by decide +kernel
theorem dX1_tellTurns_63 : decode cX1_tellTurns 63 = .ok (.iinc 3 1, 3) := by decide +kernel
theorem dX1_tellTurns_66 : decode cX1_tellTurns 66 = .ok (.iinc 4 1, 3) := by decide +kernel
theorem dX1_tellTurns_69 : decode cX1_tellTurns 69 = .ok (.goto (-64), 3) := by decide +kernel
theorem dX1_tellTurns_72 : decode cX1_tellTurns 72 = .ok (.iload_n 3, 1) := by decide +kernel
theorem dX1_tellTurns_73 : decode cX1_tellTurns 73 = .ok (.ireturn, 1) := by decide +kernel
theorem dX1_choose_0 : decode cX1_choose 0 = .ok (.iload_n 1, 1) := by decide +kernel
theorem dX1_choose_1 : decode cX1_choose 1 = .ok (.bipush 21, 2) := by decide +kernel
theorem dX1_choose_3 : decode cX1_choose 3 = .ok (.imul, 1) := by decide +kernel
theorem dX1_choose_4 : decode cX1_choose 4 = .ok (.istore_n 3, 1) := by decide +kernel
theorem dX1_choose_5 : decode cX1_choose 5 = .ok (.bipush 21, 2) := by decide +kernel
theorem dX1_choose_7 : decode cX1_choose 7 = .ok (.iload_n 2, 1) := by decide +kernel
theorem dX1_choose_8 : decode cX1_choose 8 = .ok (.iadd, 1) := by decide +kernel
theorem dX1_choose_9 : decode cX1_choose 9 = .ok (.bipush 21, 2) := by decide +kernel
theorem dX1_choose_11 : decode cX1_choose 11 = .ok (.imul, 1) := by decide +kernel
theorem dX1_choose_12 : decode cX1_choose 12 = .ok (.istore 4, 2) := by decide +kernel
theorem dX1_choose_14 : decode cX1_choose 14 = .ok (.aload_n 0, 1) := by decide +kernel
theorem dX1_choose_15 : decode cX1_choose 15 = .ok (.aload_n 0, 1) := by decide +kernel
theorem dX1_choose_16 : decode cX1_choose 16 = .ok (.getfield 15, 3) := by decide +kernel
theorem dX1_choose_19 : decode cX1_choose 19 = .ok (.iload_n 3, 1) := by decide +kernel
theorem dX1_choose_20 : decode cX1_choose 20 = .ok (.aload_n 0, 1) := by decide +kernel
theorem dX1_choose_21 : decode cX1_choose 21 = .ok (.getfield 30, 3) := by decide +kernel
theorem dX1_choose_24 : decode cX1_choose 24 = .ok (.getfield 41, 3) := by decide +kernel
theorem dX1_choose_27 : decode cX1_choose 27 = .ok (.iconst 0, 1) := by decide +kernel
theorem dX1_choose_28 : decode cX1_choose 28 = .ok (.iaload, 1) := by decide +kernel
theorem dX1_choose_29 : decode cX1_choose 29 = .ok (.iadd, 1) := by decide +kernel
theorem dX1_choose_30 : decode cX1_choose 30 = .ok (.iaload, 1) := by decide +kernel
theorem dX1_choose_31 : decode cX1_choose 31 = .ok (.aload_n 0, 1) := by decide +kernel
theorem dX1_choose_32 : decode cX1_choose 32 = .ok (.getfield 15, 3) := by decide +kernel
theorem dX1_choose_35 : decode cX1_choose 35 = .ok (.iload 4, 2) := by decide +kernel
theorem dX1_choose_37 : decode cX1_choose 37 = .ok (.aload_n 0, 1) := by decide +kernel
theorem dX1_choose_38 : decode cX1_choose 38 = .ok (.getfield 30, 3) := by decide +kernel
theorem dX1_choose_41 : decode cX1_choose 41 = .ok (.getfield 41, 3) := by decide +kernel
theorem dX1_choose_44 : decode cX1_choose 44 = .ok (.iconst 1, 1) := by decide +kernel
theorem dX1_choose_45 : decode cX1_choose 45 = .ok (.iaload, 1) := by decide +kernel
theorem dX1_choose_46 : decode cX1_choose 46 = .ok (.iadd, 1) := by decide +kernel
theorem dX1_choose_47 : decode cX1_choose 47 = .ok (.iaload, 1) := by decide +kernel
theorem dX1_choose_48 : decode cX1_choose 48 = .ok (.imul, 1) := by decide +kernel
theorem dX1_choose_49 : decode cX1_choose 49 = .ok (.putfield 73, 3) := by decide +kernel
theorem dX1_choose_52 : decode cX1_choose 52 = .ok (.iconst 0, 1) := by decide +kernel
theorem dX1_choose_53 : decode cX1_choose 53 = .ok (.istore 5, 2) := by decide +kernel
theorem dX1_choose_55 : decode cX1_choose 55 = .ok (.iload 5, 2) := by decide +kernel
theorem dX1_choose_57 : decode cX1_choose 57 = .ok (.aload_n 0, 1) := by decide +kernel
theorem dX1_choose_58 : decode cX1_choose 58 = .ok (.getfield 21, 3) := by decide +kernel
theorem dX1_choose_61 : decode cX1_choose 61 = .ok (.aload_n 0, 1) := by decide +kernel
theorem dX1_choose_62 : decode cX1_choose 62 = .ok (.getfield 30, 3) := by decide +kernel
theorem dX1_choose_65 : decode cX1_choose 65 = .ok (.getfield 54, 3) := by decide +kernel
theorem dX1_choose_68 : decode cX1_choose 68 = .ok (.iaload, 1) := by decide +kernel
theorem dX1_choose_69 : decode cX1_choose 69 = .ok (.if_icmp .ge 54, 3) := by decide +kernel
theorem dX1_choose_72 : decode cX1_choose 72 = .ok (.iload 5, 2) := by decide +kernel
theorem dX1_choose_74 : decode cX1_choose 74 = .ok (.iconst 3, 1) := by decide +kernel
theorem dX1_choose_75 : decode cX1_choose 75 = .ok (.imul, 1) := by decide +kernel
theorem dX1_choose_76 : decode cX1_choose 76 = .ok (.istore 6, 2) := by decide +kernel
theorem dX1_choose_78 : decode cX1_choose 78 = .ok (.aload_n 0, 1) := by decide +kernel
theorem dX1_choose_79 : decode cX1_choose 79 = .ok (.getfield 24, 3) := by decide +kernel
theorem dX1_choose_82 : decode cX1_choose 82 = .ok (.iload 5, 2) := by decide +kernel
theorem dX1_choose_84 : decode cX1_choose 84 = .ok (.aload_n 0, 1) := by decide +kernel
theorem dX1_choose_85 : decode cX1_choose 85 = .ok (.getfield 15, 3) := by decide +kernel
theorem dX1_choose_88 : decode cX1_choose 88 = .ok (.iload_n 3, 1) := by decide +kernel
theorem dX1_choose_89 : decode cX1_choose 89 = .ok (.aload_n 0, 1) := by decide +kernel
theorem dX1_choose_90 : decode cX1_choose 90 = .ok (.getfield 18, 3) := by decide +kernel
theorem dX1_choose_93 : decode cX1_choose 93 = .ok (.iload 6, 2) := by decide +kernel
theorem dX1_choose_95 : decode cX1_choose 95 = .ok (.iaload, 1) := by decide +kernel
theorem dX1_choose_96 : decode cX1_choose 96 = .ok (.iadd, 1) := by decide +kernel
theorem dX1_choose_97 : decode cX1_choose 97 = .ok (.iaload, 1) := by decide +kernel
theorem dX1_choose_98 : decode cX1_choose 98 = .ok (.aload_n 0, 1) := by decide +kernel
theorem dX1_choose_99 : decode cX1_choose 99 = .ok (.getfield 15, 3) := by decide +kernel
theorem dX1_choose_102 : decode cX1_choose 102 = .ok (.iload 4, 2) := by decide +kernel
theorem dX1_choose_104 : decode cX1_choose 104 = .ok (.aload_n 0, 1) := by decide +kernel
theorem dX1_choose_105 : decode cX1_choose 105 = .ok (.getfield 18, 3) := by decide +kernel
theorem dX1_choose_108 : decode cX1_choose 108 = .ok (.iload 6, 2) := by decide +kernel
theorem dX1_choose_110 : decode cX1_choose 110 = .ok (.iconst 1, 1) := by decide +kernel
theorem dX1_choose_111 : decode cX1_choose 111 = .ok (.iadd, 1) := by decide +kernel
theorem dX1_choose_112 : decode cX1_choose 112 = .ok (.iaload, 1) := by decide +kernel
theorem dX1_choose_113 : decode cX1_choose 113 = .ok (.iadd, 1) := by decide +kernel
theorem dX1_choose_114 : decode cX1_choose 114 = .ok (.iaload, 1) := by decide +kernel
theorem dX1_choose_115 : decode cX1_choose 115 = .ok (.imul, 1) := by decide +kernel
theorem dX1_choose_116 : decode cX1_choose 116 = .ok (.iastore, 1) := by decide +kernel
theorem dX1_choose_117 : decode cX1_choose 117 = .ok (.iinc 5 1, 3) := by decide +kernel
theorem dX1_choose_120 : decode cX1_choose 120 = .ok (.goto (-65), 3) := by decide +kernel
theorem dX1_choose_123 : decode cX1_choose 123 = .ok (.return_, 1) := by decide +kernel
theorem dX1_binHas_0 : decode cX1_binHas 0 = .ok (.aload_n 0, 1) := by decide +kernel
theorem dX1_binHas_1 : decode cX1_binHas 1 = .ok (.getfield 73, 3) := by decide +kernel
theorem dX1_binHas_4 : decode cX1_binHas 4 = .ok (.aload_n 0, 1) := by decide +kernel
theorem dX1_binHas_5 : decode cX1_binHas 5 = .ok (.getfield 15, 3) := by decide +kernel
theorem dX1_binHas_8 : decode cX1_binHas 8 = .ok (.bipush 42, 2) := by decide +kernel
theorem dX1_binHas_10 : decode cX1_binHas 10 = .ok (.iload_n 1, 1) := by decide +kernel
theorem dX1_binHas_11 : decode cX1_binHas 11 = .ok (.iadd, 1) := by decide +kernel
theorem dX1_binHas_12 : decode cX1_binHas 12 = .ok (.bipush 21, 2) := by decide +kernel
theorem dX1_binHas_14 : decode cX1_binHas 14 = .ok (.imul, 1) := by decide +kernel
theorem dX1_binHas_15 : decode cX1_binHas 15 = .ok (.aload_n 0, 1) := by decide +kernel
theorem dX1_binHas_16 : decode cX1_binHas 16 = .ok (.getfield 30, 3) := by decide +kernel
theorem dX1_binHas_19 : decode cX1_binHas 19 = .ok (.getfield 41, 3) := by decide +kernel
theorem dX1_binHas_22 : decode cX1_binHas 22 = .ok (.iconst 2, 1) := by decide +kernel
theorem dX1_binHas_23 : decode cX1_binHas 23 = .ok (.iaload, 1) := by decide +kernel
theorem dX1_binHas_24 : decode cX1_binHas 24 = .ok (.iadd, 1) := by decide +kernel
theorem dX1_binHas_25 : decode cX1_binHas 25 = .ok (.iaload, 1) := by decide +kernel
theorem dX1_binHas_26 : decode cX1_binHas 26 = .ok (.imul, 1) := by decide +kernel
theorem dX1_binHas_27 : decode cX1_binHas 27 = .ok (.ireturn, 1) := by decide +kernel
theorem dX1_needOf_0 : decode cX1_needOf 0 = .ok (.bipush 42, 2) := by decide +kernel
theorem dX1_needOf_2 : decode cX1_needOf 2 = .ok (.iload_n 2, 1) := by decide +kernel
theorem dX1_needOf_3 : decode cX1_needOf 3 = .ok (.iadd, 1) := by decide +kernel
theorem dX1_needOf_4 : decode cX1_needOf 4 = .ok (.bipush 21, 2) := by decide +kernel
theorem dX1_needOf_6 : decode cX1_needOf 6 = .ok (.imul, 1) := by decide +kernel
theorem dX1_needOf_7 : decode cX1_needOf 7 = .ok (.istore_n 3, 1) := by decide +kernel
theorem dX1_needOf_8 : decode cX1_needOf 8 = .ok (.aload_n 0, 1) := by decide +kernel
theorem dX1_needOf_9 : decode cX1_needOf 9 = .ok (.iload_n 2, 1) := by decide +kernel
theorem dX1_needOf_10 : decode cX1_needOf 10 = .ok (.invokevirtual 76, 3) := by decide +kernel
theorem dX1_needOf_13 : decode cX1_needOf 13 = .ok (.iconst 1, 1) := by decide +kernel
theorem dX1_needOf_14 : decode cX1_needOf 14 = .ok (.iadd, 1) := by decide +kernel
theorem dX1_needOf_15 : decode cX1_needOf 15 = .ok (.istore 4, 2) := by decide +kernel
theorem dX1_needOf_17 : decode cX1_needOf 17 = .ok (.iconst 0, 1) := by decide +kernel
theorem dX1_needOf_18 : decode cX1_needOf 18 = .ok (.istore 5, 2) := by decide +kernel
theorem dX1_needOf_20 : decode cX1_needOf 20 = .ok (.iconst 0, 1) := by decide +kernel
theorem dX1_needOf_21 : decode cX1_needOf 21 = .ok (.istore 6, 2) := by decide +kernel
theorem dX1_needOf_23 : decode cX1_needOf 23 = .ok (.iload 6, 2) := by decide +kernel
theorem dX1_needOf_25 : decode cX1_needOf 25 = .ok (.aload_n 0, 1) := by decide +kernel
theorem dX1_needOf_26 : decode cX1_needOf 26 = .ok (.getfield 30, 3) := by decide +kernel
theorem dX1_needOf_29 : decode cX1_needOf 29 = .ok (.getfield 54, 3) := by decide +kernel
theorem dX1_needOf_32 : decode cX1_needOf 32 = .ok (.if_icmp .ge 92, 3) := by decide +kernel
theorem dX1_needOf_35 : decode cX1_needOf 35 = .ok (.iload_n 1, 1) := by decide +kernel
theorem dX1_needOf_36 : decode cX1_needOf 36 = .ok (.iload 6, 2) := by decide +kernel
theorem dX1_needOf_38 : decode cX1_needOf 38 = .ok (.ishr, 1) := by decide +kernel
theorem dX1_needOf_39 : decode cX1_needOf 39 = .ok (.iconst 1, 1) := by decide +kernel
theorem dX1_needOf_40 : decode cX1_needOf 40 = .ok (.iand, 1) := by decide +kernel
theorem dX1_needOf_41 : decode cX1_needOf 41 = .ok (.iconst 1, 1) := by decide +kernel
theorem dX1_needOf_42 : decode cX1_needOf 42 = .ok (.if_icmp .ne 76, 3) := by decide +kernel
theorem dX1_needOf_45 : decode cX1_needOf 45 = .ok (.iload 4, 2) := by decide +kernel
theorem dX1_needOf_47 : decode cX1_needOf 47 = .ok (.istore 7, 2) := by decide +kernel
theorem dX1_needOf_49 : decode cX1_needOf 49 = .ok (.aload_n 0, 1) := by decide +kernel
theorem dX1_needOf_50 : decode cX1_needOf 50 = .ok (.getfield 21, 3) := by decide +kernel
theorem dX1_needOf_53 : decode cX1_needOf 53 = .ok (.iload 6, 2) := by decide +kernel
theorem dX1_needOf_55 : decode cX1_needOf 55 = .ok (.iaload, 1) := by decide +kernel
theorem dX1_needOf_56 : decode cX1_needOf 56 = .ok (.istore 8, 2) := by decide +kernel
theorem dX1_needOf_58 : decode cX1_needOf 58 = .ok (.iload 8, 2) := by decide +kernel
theorem dX1_needOf_60 : decode cX1_needOf 60 = .ok (.aload_n 0, 1) := by decide +kernel
theorem dX1_needOf_61 : decode cX1_needOf 61 = .ok (.getfield 21, 3) := by decide +kernel
theorem dX1_needOf_64 : decode cX1_needOf 64 = .ok (.iload 6, 2) := by decide +kernel
theorem dX1_needOf_66 : decode cX1_needOf 66 = .ok (.iconst 1, 1) := by decide +kernel
theorem dX1_needOf_67 : decode cX1_needOf 67 = .ok (.iadd, 1) := by decide +kernel
theorem dX1_needOf_68 : decode cX1_needOf 68 = .ok (.iaload, 1) := by decide +kernel
theorem dX1_needOf_69 : decode cX1_needOf 69 = .ok (.if_icmp .ge 42, 3) := by decide +kernel
theorem dX1_needOf_72 : decode cX1_needOf 72 = .ok (.iload 7, 2) := by decide +kernel
theorem dX1_needOf_74 : decode cX1_needOf 74 = .ok (.aload_n 0, 1) := by decide +kernel
theorem dX1_needOf_75 : decode cX1_needOf 75 = .ok (.getfield 24, 3) := by decide +kernel
theorem dX1_needOf_78 : decode cX1_needOf 78 = .ok (.iload 8, 2) := by decide +kernel
theorem dX1_needOf_80 : decode cX1_needOf 80 = .ok (.iaload, 1) := by decide +kernel
theorem dX1_needOf_81 : decode cX1_needOf 81 = .ok (.aload_n 0, 1) := by decide +kernel
theorem dX1_needOf_82 : decode cX1_needOf 82 = .ok (.getfield 15, 3) := by decide +kernel
theorem dX1_needOf_85 : decode cX1_needOf 85 = .ok (.iload_n 3, 1) := by decide +kernel
theorem dX1_needOf_86 : decode cX1_needOf 86 = .ok (.aload_n 0, 1) := by decide +kernel
theorem dX1_needOf_87 : decode cX1_needOf 87 = .ok (.getfield 18, 3) := by decide +kernel
theorem dX1_needOf_90 : decode cX1_needOf 90 = .ok (.iload 8, 2) := by decide +kernel
theorem dX1_needOf_92 : decode cX1_needOf 92 = .ok (.iconst 3, 1) := by decide +kernel
theorem dX1_needOf_93 : decode cX1_needOf 93 = .ok (.imul, 1) := by decide +kernel
theorem dX1_needOf_94 : decode cX1_needOf 94 = .ok (.iconst 2, 1) := by decide +kernel
theorem dX1_needOf_95 : decode cX1_needOf 95 = .ok (.iadd, 1) := by decide +kernel
theorem dX1_needOf_96 : decode cX1_needOf 96 = .ok (.iaload, 1) := by decide +kernel
theorem dX1_needOf_97 : decode cX1_needOf 97 = .ok (.iadd, 1) := by decide +kernel
theorem dX1_needOf_98 : decode cX1_needOf 98 = .ok (.iaload, 1) := by decide +kernel
theorem dX1_needOf_99 : decode cX1_needOf 99 = .ok (.imul, 1) := by decide +kernel
theorem dX1_needOf_100 : decode cX1_needOf 100 = .ok (.invokestatic 79, 3) := by decide +kernel
theorem dX1_needOf_103 : decode cX1_needOf 103 = .ok (.istore 7, 2) := by decide +kernel
theorem dX1_needOf_105 : decode cX1_needOf 105 = .ok (.iinc 8 1, 3) := by decide +kernel
theorem dX1_needOf_108 : decode cX1_needOf 108 = .ok (.goto (-50), 3) := by decide +kernel
theorem dX1_needOf_111 : decode cX1_needOf 111 = .ok (.iload 5, 2) := by decide +kernel
theorem dX1_needOf_113 : decode cX1_needOf 113 = .ok (.iload 7, 2) := by decide +kernel
theorem dX1_needOf_115 : decode cX1_needOf 115 = .ok (.iadd, 1) := by decide +kernel
theorem dX1_needOf_116 : decode cX1_needOf 116 = .ok (.istore 5, 2) := by decide +kernel
theorem dX1_needOf_118 : decode cX1_needOf 118 = .ok (.iinc 6 1, 3) := by decide +kernel
theorem dX1_needOf_121 : decode cX1_needOf 121 = .ok (.goto (-98), 3) := by decide +kernel
theorem dX1_needOf_124 : decode cX1_needOf 124 = .ok (.iload 5, 2) := by decide +kernel
theorem dX1_needOf_126 : decode cX1_needOf 126 = .ok (.ireturn, 1) := by decide +kernel
theorem dX1_proves_0 : decode cX1_proves 0 = .ok (.aload_n 0, 1) := by decide +kernel
theorem dX1_proves_1 : decode cX1_proves 1 = .ok (.iload_n 1, 1) := by decide +kernel
theorem dX1_proves_2 : decode cX1_proves 2 = .ok (.iload_n 2, 1) := by decide +kernel
theorem dX1_proves_3 : decode cX1_proves 3 = .ok (.invokevirtual 84, 3) := by decide +kernel
theorem dX1_proves_6 : decode cX1_proves 6 = .ok (.aload_n 0, 1) := by decide +kernel
theorem dX1_proves_7 : decode cX1_proves 7 = .ok (.iload_n 2, 1) := by decide +kernel
theorem dX1_proves_8 : decode cX1_proves 8 = .ok (.invokevirtual 76, 3) := by decide +kernel
theorem dX1_proves_11 : decode cX1_proves 11 = .ok (.if_icmp .le 7, 3) := by decide +kernel
theorem dX1_proves_14 : decode cX1_proves 14 = .ok (.iconst 1, 1) := by decide +kernel
theorem dX1_proves_15 : decode cX1_proves 15 = .ok (.goto 4, 3) := by decide +kernel
theorem dX1_proves_18 : decode cX1_proves 18 = .ok (.iconst 0, 1) := by decide +kernel
theorem dX1_proves_19 : decode cX1_proves 19 = .ok (.ireturn, 1) := by decide +kernel
theorem dX1_seekProof_0 : decode cX1_seekProof 0 = .ok (.aload_n 0, 1) := by decide +kernel
theorem dX1_seekProof_1 : decode cX1_seekProof 1 = .ok (.getfield 38, 3) := by decide +kernel
theorem dX1_seekProof_4 : decode cX1_seekProof 4 = .ok (.ifCond .eq 4, 3) := by decide +kernel
theorem dX1_seekProof_7 : decode cX1_seekProof 7 = .ok (.return_, 1) := by decide +kernel
theorem dX1_seekProof_8 : decode cX1_seekProof 8 = .ok (.aload_n 0, 1) := by decide +kernel
theorem dX1_seekProof_9 : decode cX1_seekProof 9 = .ok (.iconst 1, 1) := by decide +kernel
theorem dX1_seekProof_10 : decode cX1_seekProof 10 = .ok (.putfield 38, 3) := by decide +kernel
theorem dX1_seekProof_13 : decode cX1_seekProof 13 = .ok (.aload_n 0, 1) := by decide +kernel
theorem dX1_seekProof_14 : decode cX1_seekProof 14 = .ok (.invokevirtual 87, 3) := by decide +kernel
theorem dX1_seekProof_17 : decode cX1_seekProof 17 = .ok (.iconst 0, 1) := by decide +kernel
theorem dX1_seekProof_18 : decode cX1_seekProof 18 = .ok (.istore_n 1, 1) := by decide +kernel
theorem dX1_seekProof_19 : decode cX1_seekProof 19 = .ok (.iload_n 1, 1) := by decide +kernel
theorem dX1_seekProof_20 : decode cX1_seekProof 20 = .ok (.iconst 3, 1) := by decide +kernel
theorem dX1_seekProof_21 : decode cX1_seekProof 21 = .ok (.if_icmp .ge 14, 3) := by decide +kernel
theorem dX1_seekProof_24 : decode cX1_seekProof 24 = .ok (.aload_n 0, 1) := by decide +kernel
theorem dX1_seekProof_25 : decode cX1_seekProof 25 = .ok (.iload_n 1, 1) := by decide +kernel
theorem dX1_seekProof_26 : decode cX1_seekProof 26 = .ok (.invokevirtual 90, 3) := by decide +kernel
theorem dX1_seekProof_29 : decode cX1_seekProof 29 = .ok (.iinc 1 1, 3) := by decide +kernel
theorem dX1_seekProof_32 : decode cX1_seekProof 32 = .ok (.goto (-13), 3) := by decide +kernel
theorem dX1_seekProof_35 : decode cX1_seekProof 35 = .ok (.iconst 0, 1) := by decide +kernel
theorem dX1_seekProof_36 : decode cX1_seekProof 36 = .ok (.istore_n 1, 1) := by decide +kernel
theorem dX1_seekProof_37 : decode cX1_seekProof 37 = .ok (.iload_n 1, 1) := by decide +kernel
theorem dX1_seekProof_38 : decode cX1_seekProof 38 = .ok (.aload_n 0, 1) := by decide +kernel
theorem dX1_seekProof_39 : decode cX1_seekProof 39 = .ok (.iconst 0, 1) := by decide +kernel
theorem dX1_seekProof_40 : decode cX1_seekProof 40 = .ok (.invokevirtual 46, 3) := by decide +kernel
theorem dX1_seekProof_43 : decode cX1_seekProof 43 = .ok (.if_icmp .gt 54, 3) := by decide +kernel
theorem dX1_seekProof_46 : decode cX1_seekProof 46 = .ok (.iconst 0, 1) := by decide +kernel
theorem dX1_seekProof_47 : decode cX1_seekProof 47 = .ok (.istore_n 2, 1) := by decide +kernel
theorem dX1_seekProof_48 : decode cX1_seekProof 48 = .ok (.aload_n 0, 1) := by decide +kernel
theorem dX1_seekProof_49 : decode cX1_seekProof 49 = .ok (.iconst 0, 1) := by decide +kernel
theorem dX1_seekProof_50 : decode cX1_seekProof 50 = .ok (.iload_n 1, 1) := by decide +kernel
theorem dX1_seekProof_51 : decode cX1_seekProof 51 = .ok (.invokevirtual 93, 3) := by decide +kernel
theorem dX1_seekProof_54 : decode cX1_seekProof 54 = .ok (.ifCond .eq 37, 3) := by decide +kernel
theorem dX1_seekProof_57 : decode cX1_seekProof 57 = .ok (.iload_n 2, 1) := by decide +kernel
theorem dX1_seekProof_58 : decode cX1_seekProof 58 = .ok (.aload_n 0, 1) := by decide +kernel
theorem dX1_seekProof_59 : decode cX1_seekProof 59 = .ok (.iconst 1, 1) := by decide +kernel
theorem dX1_seekProof_60 : decode cX1_seekProof 60 = .ok (.invokevirtual 46, 3) := by decide +kernel
theorem dX1_seekProof_63 : decode cX1_seekProof 63 = .ok (.if_icmp .gt 28, 3) := by decide +kernel
theorem dX1_seekProof_66 : decode cX1_seekProof 66 = .ok (.aload_n 0, 1) := by decide +kernel
theorem dX1_seekProof_67 : decode cX1_seekProof 67 = .ok (.iconst 1, 1) := by decide +kernel
theorem dX1_seekProof_68 : decode cX1_seekProof 68 = .ok (.iload_n 2, 1) := by decide +kernel
theorem dX1_seekProof_69 : decode cX1_seekProof 69 = .ok (.invokevirtual 93, 3) := by decide +kernel
theorem dX1_seekProof_72 : decode cX1_seekProof 72 = .ok (.ifCond .eq 13, 3) := by decide +kernel
theorem dX1_seekProof_75 : decode cX1_seekProof 75 = .ok (.aload_n 0, 1) := by decide +kernel
theorem dX1_seekProof_76 : decode cX1_seekProof 76 = .ok (.iload_n 1, 1) := by decide +kernel
theorem dX1_seekProof_77 : decode cX1_seekProof 77 = .ok (.iload_n 2, 1) := by decide +kernel
theorem dX1_seekProof_78 : decode cX1_seekProof 78 = .ok (.invokevirtual 96, 3) := by decide +kernel
theorem dX1_seekProof_81 : decode cX1_seekProof 81 = .ok (.ifCond .eq 4, 3) := by decide +kernel
theorem dX1_seekProof_84 : decode cX1_seekProof 84 = .ok (.return_, 1) := by decide +kernel
theorem dX1_seekProof_85 : decode cX1_seekProof 85 = .ok (.iinc 2 1, 3) := by decide +kernel
theorem dX1_seekProof_88 : decode cX1_seekProof 88 = .ok (.goto (-40), 3) := by decide +kernel
theorem dX1_seekProof_91 : decode cX1_seekProof 91 = .ok (.iinc 1 1, 3) := by decide +kernel
theorem dX1_seekProof_94 : decode cX1_seekProof 94 = .ok (.goto (-57), 3) := by decide +kernel
theorem dX1_seekProof_97 : decode cX1_seekProof 97 = .ok (.aload_n 0, 1) := by decide +kernel
theorem dX1_seekProof_98 : decode cX1_seekProof 98 = .ok (.bipush (-9), 2) := by decide +kernel
theorem dX1_seekProof_100 : decode cX1_seekProof 100 = .ok (.bipush (-9), 2) := by decide +kernel
theorem dX1_seekProof_102 : decode cX1_seekProof 102 = .ok (.bipush (-9), 2) := by decide +kernel
theorem dX1_seekProof_104 : decode cX1_seekProof 104 = .ok (.bipush (-9), 2) := by decide +kernel
theorem dX1_seekProof_106 : decode cX1_seekProof 106 = .ok (.invokevirtual 99, 3) := by decide +kernel
theorem dX1_seekProof_109 : decode cX1_seekProof 109 = .ok (.return_, 1) := by decide +kernel
theorem dX1_seekOnLastAxis_0 : decode cX1_seekOnLastAxis 0 = .ok (.aload_n 0, 1) := by decide +kernel
theorem dX1_seekOnLastAxis_1 : decode cX1_seekOnLastAxis 1 = .ok (.iload_n 1, 1) := by decide +kernel
theorem dX1_seekOnLastAxis_2 : decode cX1_seekOnLastAxis 2 = .ok (.iload_n 2, 1) := by decide +kernel
theorem dX1_seekOnLastAxis_3 : decode cX1_seekOnLastAxis 3 = .ok (.invokevirtual 103, 3) := by decide +kernel
theorem dX1_seekOnLastAxis_6 : decode cX1_seekOnLastAxis 6 = .ok (.iconst 0, 1) := by decide +kernel
theorem dX1_seekOnLastAxis_7 : decode cX1_seekOnLastAxis 7 = .ok (.istore_n 3, 1) := by decide +kernel
theorem dX1_seekOnLastAxis_8 : decode cX1_seekOnLastAxis 8 = .ok (.iload_n 3, 1) := by decide +kernel
theorem dX1_seekOnLastAxis_9 : decode cX1_seekOnLastAxis 9 = .ok (.aload_n 0, 1) := by decide +kernel
theorem dX1_seekOnLastAxis_10 : decode cX1_seekOnLastAxis 10 = .ok (.iconst 2, 1) := by decide +kernel
theorem dX1_seekOnLastAxis_11 : decode cX1_seekOnLastAxis 11 = .ok (.invokevirtual 46, 3) := by decide +kernel
theorem dX1_seekOnLastAxis_14 : decode cX1_seekOnLastAxis 14 = .ok (.if_icmp .gt 47, 3) := by decide +kernel
theorem dX1_seekOnLastAxis_17 : decode cX1_seekOnLastAxis 17 = .ok (.aload_n 0, 1) := by decide +kernel
theorem dX1_seekOnLastAxis_18 : decode cX1_seekOnLastAxis 18 = .ok (.iconst 2, 1) := by decide +kernel
theorem dX1_seekOnLastAxis_19 : decode cX1_seekOnLastAxis 19 = .ok (.iload_n 3, 1) := by decide +kernel
theorem dX1_seekOnLastAxis_20 : decode cX1_seekOnLastAxis 20 = .ok (.invokevirtual 93, 3) := by decide +kernel
theorem dX1_seekOnLastAxis_23 : decode cX1_seekOnLastAxis 23 = .ok (.ifCond .eq 32, 3) := by decide +kernel
theorem dX1_seekOnLastAxis_26 : decode cX1_seekOnLastAxis 26 = .ok (.aload_n 0, 1) := by decide +kernel
theorem dX1_seekOnLastAxis_27 : decode cX1_seekOnLastAxis 27 = .ok (.aload_n 0, 1) := by decide +kernel
theorem dX1_seekOnLastAxis_28 : decode cX1_seekOnLastAxis 28 = .ok (.getfield 30, 3) := by decide +kernel
theorem dX1_seekOnLastAxis_31 : decode cX1_seekOnLastAxis 31 = .ok (.invokevirtual 107, 3) := by decide +kernel
theorem dX1_seekOnLastAxis_34 : decode cX1_seekOnLastAxis 34 = .ok (.iload_n 3, 1) := by decide +kernel
theorem dX1_seekOnLastAxis_35 : decode cX1_seekOnLastAxis 35 = .ok (.invokevirtual 111, 3) := by decide +kernel
theorem dX1_seekOnLastAxis_38 : decode cX1_seekOnLastAxis 38 = .ok (.ifCond .eq 17, 3) := by decide +kernel
theorem dX1_seekOnLastAxis_41 : decode cX1_seekOnLastAxis 41 = .ok (.aload_n 0, 1) := by decide +kernel
theorem dX1_seekOnLastAxis_42 : decode cX1_seekOnLastAxis 42 = .ok (.iload_n 1, 1) := by decide +kernel
theorem dX1_seekOnLastAxis_43 : decode cX1_seekOnLastAxis 43 = .ok (.iload_n 2, 1) := by decide +kernel
theorem dX1_seekOnLastAxis_44 : decode cX1_seekOnLastAxis 44 = .ok (.iload_n 3, 1) := by decide +kernel
theorem dX1_seekOnLastAxis_45 : decode cX1_seekOnLastAxis 45 = .ok (.aload_n 0, 1) := by decide +kernel
theorem dX1_seekOnLastAxis_46 : decode cX1_seekOnLastAxis 46 = .ok (.iload_n 3, 1) := by decide +kernel
theorem dX1_seekOnLastAxis_47 : decode cX1_seekOnLastAxis 47 = .ok (.invokevirtual 114, 3) := by decide +kernel
theorem dX1_seekOnLastAxis_50 : decode cX1_seekOnLastAxis 50 = .ok (.invokevirtual 99, 3) := by decide +kernel
theorem dX1_seekOnLastAxis_53 : decode cX1_seekOnLastAxis 53 = .ok (.iconst 1, 1) := by decide +kernel
theorem dX1_seekOnLastAxis_54 : decode cX1_seekOnLastAxis 54 = .ok (.ireturn, 1) := by decide +kernel
theorem dX1_seekOnLastAxis_55 : decode cX1_seekOnLastAxis 55 = .ok (.iinc 3 1, 3) := by decide +kernel
theorem dX1_seekOnLastAxis_58 : decode cX1_seekOnLastAxis 58 = .ok (.goto (-50), 3) := by decide +kernel
theorem dX1_seekOnLastAxis_61 : decode cX1_seekOnLastAxis 61 = .ok (.iconst 0, 1) := by decide +kernel
theorem dX1_seekOnLastAxis_62 : decode cX1_seekOnLastAxis 62 = .ok (.ireturn, 1) := by decide +kernel
theorem dX1_isTried_0 : decode cX1_isTried 0 = .ok (.aload_n 0, 1) := by decide +kernel
theorem dX1_isTried_1 : decode cX1_isTried 1 = .ok (.getfield 27, 3) := by decide +kernel
theorem dX1_isTried_4 : decode cX1_isTried 4 = .ok (.iload_n 1, 1) := by decide +kernel
theorem dX1_isTried_5 : decode cX1_isTried 5 = .ok (.iaload, 1) := by decide +kernel
theorem dX1_isTried_6 : decode cX1_isTried 6 = .ok (.iload_n 2, 1) := by decide +kernel
theorem dX1_isTried_7 : decode cX1_isTried 7 = .ok (.ishr, 1) := by decide +kernel
theorem dX1_isTried_8 : decode cX1_isTried 8 = .ok (.iconst 1, 1) := by decide +kernel
theorem dX1_isTried_9 : decode cX1_isTried 9 = .ok (.iand, 1) := by decide +kernel
theorem dX1_isTried_10 : decode cX1_isTried 10 = .ok (.iconst 1, 1) := by decide +kernel
theorem dX1_isTried_11 : decode cX1_isTried 11 = .ok (.if_icmp .ne 7, 3) := by decide +kernel
theorem dX1_isTried_14 : decode cX1_isTried 14 = .ok (.iconst 1, 1) := by decide +kernel
theorem dX1_isTried_15 : decode cX1_isTried 15 = .ok (.goto 4, 3) := by decide +kernel
theorem dX1_isTried_18 : decode cX1_isTried 18 = .ok (.iconst 0, 1) := by decide +kernel
theorem dX1_isTried_19 : decode cX1_isTried 19 = .ok (.ireturn, 1) := by decide +kernel
theorem dX1_leaveOutIdle_0 : decode cX1_leaveOutIdle 0 = .ok (.aload_n 0, 1) := by decide +kernel
theorem dX1_leaveOutIdle_1 : decode cX1_leaveOutIdle 1 = .ok (.getfield 27, 3) := by decide +kernel
theorem dX1_leaveOutIdle_4 : decode cX1_leaveOutIdle 4 = .ok (.iload_n 1, 1) := by decide +kernel
theorem dX1_leaveOutIdle_5 : decode cX1_leaveOutIdle 5 = .ok (.iconst 0, 1) := by decide +kernel
theorem dX1_leaveOutIdle_6 : decode cX1_leaveOutIdle 6 = .ok (.iastore, 1) := by decide +kernel
theorem dX1_leaveOutIdle_7 : decode cX1_leaveOutIdle 7 = .ok (.iconst 0, 1) := by decide +kernel
theorem dX1_leaveOutIdle_8 : decode cX1_leaveOutIdle 8 = .ok (.istore_n 2, 1) := by decide +kernel
theorem dX1_leaveOutIdle_9 : decode cX1_leaveOutIdle 9 = .ok (.iload_n 2, 1) := by decide +kernel
theorem dX1_leaveOutIdle_10 : decode cX1_leaveOutIdle 10 = .ok (.aload_n 0, 1) := by decide +kernel
theorem dX1_leaveOutIdle_11 : decode cX1_leaveOutIdle 11 = .ok (.iload_n 1, 1) := by decide +kernel
theorem dX1_leaveOutIdle_12 : decode cX1_leaveOutIdle 12 = .ok (.invokevirtual 46, 3) := by decide +kernel
theorem dX1_leaveOutIdle_15 : decode cX1_leaveOutIdle 15 = .ok (.if_icmp .gt 73, 3) := by decide +kernel
theorem dX1_leaveOutIdle_18 : decode cX1_leaveOutIdle 18 = .ok (.iconst 0, 1) := by decide +kernel
theorem dX1_leaveOutIdle_19 : decode cX1_leaveOutIdle 19 = .ok (.istore_n 3, 1) := by decide +kernel
theorem dX1_leaveOutIdle_20 : decode cX1_leaveOutIdle 20 = .ok (.iconst 0, 1) := by decide +kernel
theorem dX1_leaveOutIdle_21 : decode cX1_leaveOutIdle 21 = .ok (.istore 4, 2) := by decide +kernel
theorem dX1_leaveOutIdle_23 : decode cX1_leaveOutIdle 23 = .ok (.iload 4, 2) := by decide +kernel
theorem dX1_leaveOutIdle_25 : decode cX1_leaveOutIdle 25 = .ok (.iload_n 2, 1) := by decide +kernel
theorem dX1_leaveOutIdle_26 : decode cX1_leaveOutIdle 26 = .ok (.if_icmp .ge 40, 3) := by decide +kernel
theorem dX1_leaveOutIdle_29 : decode cX1_leaveOutIdle 29 = .ok (.iload_n 3, 1) := by decide +kernel
theorem dX1_leaveOutIdle_30 : decode cX1_leaveOutIdle 30 = .ok (.ifCond .ne 36, 3) := by decide +kernel
theorem dX1_leaveOutIdle_33 : decode cX1_leaveOutIdle 33 = .ok (.aload_n 0, 1) := by decide +kernel
theorem dX1_leaveOutIdle_34 : decode cX1_leaveOutIdle 34 = .ok (.iload_n 1, 1) := by decide +kernel
theorem dX1_leaveOutIdle_35 : decode cX1_leaveOutIdle 35 = .ok (.iload 4, 2) := by decide +kernel
theorem dX1_leaveOutIdle_37 : decode cX1_leaveOutIdle 37 = .ok (.invokevirtual 93, 3) := by decide +kernel
theorem dX1_leaveOutIdle_40 : decode cX1_leaveOutIdle 40 = .ok (.ifCond .eq 18, 3) := by decide +kernel
theorem dX1_leaveOutIdle_43 : decode cX1_leaveOutIdle 43 = .ok (.aload_n 0, 1) := by decide +kernel
theorem dX1_leaveOutIdle_44 : decode cX1_leaveOutIdle 44 = .ok (.iload_n 1, 1) := by decide +kernel
theorem dX1_leaveOutIdle_45 : decode cX1_leaveOutIdle 45 = .ok (.iload 4, 2) := by decide +kernel
theorem dX1_leaveOutIdle_47 : decode cX1_leaveOutIdle 47 = .ok (.iload_n 2, 1) := by decide +kernel
theorem dX1_leaveOutIdle_48 : decode cX1_leaveOutIdle 48 = .ok (.invokevirtual 117, 3) := by decide +kernel
theorem dX1_leaveOutIdle_51 : decode cX1_leaveOutIdle 51 = .ok (.ifCond .eq 7, 3) := by decide +kernel
theorem dX1_leaveOutIdle_54 : decode cX1_leaveOutIdle 54 = .ok (.iconst 1, 1) := by decide +kernel
theorem dX1_leaveOutIdle_55 : decode cX1_leaveOutIdle 55 = .ok (.goto 4, 3) := by decide +kernel
theorem dX1_leaveOutIdle_58 : decode cX1_leaveOutIdle 58 = .ok (.iconst 0, 1) := by decide +kernel
theorem dX1_leaveOutIdle_59 : decode cX1_leaveOutIdle 59 = .ok (.istore_n 3, 1) := by decide +kernel
theorem dX1_leaveOutIdle_60 : decode cX1_leaveOutIdle 60 = .ok (.iinc 4 1, 3) := by decide +kernel
theorem dX1_leaveOutIdle_63 : decode cX1_leaveOutIdle 63 = .ok (.goto (-40), 3) := by decide +kernel
theorem dX1_leaveOutIdle_66 : decode cX1_leaveOutIdle 66 = .ok (.iload_n 3, 1) := by decide +kernel
theorem dX1_leaveOutIdle_67 : decode cX1_leaveOutIdle 67 = .ok (.ifCond .ne 15, 3) := by decide +kernel
theorem dX1_leaveOutIdle_70 : decode cX1_leaveOutIdle 70 = .ok (.aload_n 0, 1) := by decide +kernel
theorem dX1_leaveOutIdle_71 : decode cX1_leaveOutIdle 71 = .ok (.getfield 27, 3) := by decide +kernel
theorem dX1_leaveOutIdle_74 : decode cX1_leaveOutIdle 74 = .ok (.iload_n 1, 1) := by decide +kernel
theorem dX1_leaveOutIdle_75 : decode cX1_leaveOutIdle 75 = .ok (.dup2, 1) := by decide +kernel
theorem dX1_leaveOutIdle_76 : decode cX1_leaveOutIdle 76 = .ok (.iaload, 1) := by decide +kernel
theorem dX1_leaveOutIdle_77 : decode cX1_leaveOutIdle 77 = .ok (.iconst 1, 1) := by decide +kernel
theorem dX1_leaveOutIdle_78 : decode cX1_leaveOutIdle 78 = .ok (.iload_n 2, 1) := by decide +kernel
theorem dX1_leaveOutIdle_79 : decode cX1_leaveOutIdle 79 = .ok (.ishl, 1) := by decide +kernel
theorem dX1_leaveOutIdle_80 : decode cX1_leaveOutIdle 80 = .ok (.ior, 1) := by decide +kernel
theorem dX1_leaveOutIdle_81 : decode cX1_leaveOutIdle 81 = .ok (.iastore, 1) := by decide +kernel
theorem dX1_leaveOutIdle_82 : decode cX1_leaveOutIdle 82 = .ok (.iinc 2 1, 3) := by decide +kernel
theorem dX1_leaveOutIdle_85 : decode cX1_leaveOutIdle 85 = .ok (.goto (-76), 3) := by decide +kernel
theorem dX1_leaveOutIdle_88 : decode cX1_leaveOutIdle 88 = .ok (.return_, 1) := by decide +kernel
theorem dX1_givesNoLess_0 : decode cX1_givesNoLess 0 = .ok (.iload_n 1, 1) := by decide +kernel
theorem dX1_givesNoLess_1 : decode cX1_givesNoLess 1 = .ok (.bipush 21, 2) := by decide +kernel
theorem dX1_givesNoLess_3 : decode cX1_givesNoLess 3 = .ok (.imul, 1) := by decide +kernel
theorem dX1_givesNoLess_4 : decode cX1_givesNoLess 4 = .ok (.iload_n 2, 1) := by decide +kernel
theorem dX1_givesNoLess_5 : decode cX1_givesNoLess 5 = .ok (.iadd, 1) := by decide +kernel
theorem dX1_givesNoLess_6 : decode cX1_givesNoLess 6 = .ok (.bipush 21, 2) := by decide +kernel
theorem dX1_givesNoLess_8 : decode cX1_givesNoLess 8 = .ok (.imul, 1) := by decide +kernel
theorem dX1_givesNoLess_9 : decode cX1_givesNoLess 9 = .ok (.istore 4, 2) := by decide +kernel
theorem dX1_givesNoLess_11 : decode cX1_givesNoLess 11 = .ok (.iload_n 1, 1) := by decide +kernel
theorem dX1_givesNoLess_12 : decode cX1_givesNoLess 12 = .ok (.bipush 21, 2) := by decide +kernel
theorem dX1_givesNoLess_14 : decode cX1_givesNoLess 14 = .ok (.imul, 1) := by decide +kernel
theorem dX1_givesNoLess_15 : decode cX1_givesNoLess 15 = .ok (.iload_n 3, 1) := by decide +kernel
theorem dX1_givesNoLess_16 : decode cX1_givesNoLess 16 = .ok (.iadd, 1) := by decide +kernel
theorem dX1_givesNoLess_17 : decode cX1_givesNoLess 17 = .ok (.bipush 21, 2) := by decide +kernel
theorem dX1_givesNoLess_19 : decode cX1_givesNoLess 19 = .ok (.imul, 1) := by decide +kernel
theorem dX1_givesNoLess_20 : decode cX1_givesNoLess 20 = .ok (.istore 5, 2) := by decide +kernel
theorem dX1_givesNoLess_22 : decode cX1_givesNoLess 22 = .ok (.aload_n 0, 1) := by decide +kernel
theorem dX1_givesNoLess_23 : decode cX1_givesNoLess 23 = .ok (.getfield 30, 3) := by decide +kernel
theorem dX1_givesNoLess_26 : decode cX1_givesNoLess 26 = .ok (.getfield 41, 3) := by decide +kernel
theorem dX1_givesNoLess_29 : decode cX1_givesNoLess 29 = .ok (.iload_n 1, 1) := by decide +kernel
theorem dX1_givesNoLess_30 : decode cX1_givesNoLess 30 = .ok (.iaload, 1) := by decide +kernel
theorem dX1_givesNoLess_31 : decode cX1_givesNoLess 31 = .ok (.istore 6, 2) := by decide +kernel
theorem dX1_givesNoLess_33 : decode cX1_givesNoLess 33 = .ok (.iconst 0, 1) := by decide +kernel
theorem dX1_givesNoLess_34 : decode cX1_givesNoLess 34 = .ok (.istore 7, 2) := by decide +kernel
theorem dX1_givesNoLess_36 : decode cX1_givesNoLess 36 = .ok (.iload 7, 2) := by decide +kernel
theorem dX1_givesNoLess_38 : decode cX1_givesNoLess 38 = .ok (.aload_n 0, 1) := by decide +kernel
theorem dX1_givesNoLess_39 : decode cX1_givesNoLess 39 = .ok (.getfield 21, 3) := by decide +kernel
theorem dX1_givesNoLess_42 : decode cX1_givesNoLess 42 = .ok (.aload_n 0, 1) := by decide +kernel
theorem dX1_givesNoLess_43 : decode cX1_givesNoLess 43 = .ok (.getfield 30, 3) := by decide +kernel
theorem dX1_givesNoLess_46 : decode cX1_givesNoLess 46 = .ok (.getfield 54, 3) := by decide +kernel
theorem dX1_givesNoLess_49 : decode cX1_givesNoLess 49 = .ok (.iaload, 1) := by decide +kernel
theorem dX1_givesNoLess_50 : decode cX1_givesNoLess 50 = .ok (.if_icmp .ge 69, 3) := by decide +kernel
theorem dX1_givesNoLess_53 : decode cX1_givesNoLess 53 = .ok (.aload_n 0, 1) := by decide +kernel
theorem dX1_givesNoLess_54 : decode cX1_givesNoLess 54 = .ok (.getfield 18, 3) := by decide +kernel
theorem dX1_givesNoLess_57 : decode cX1_givesNoLess 57 = .ok (.iload 7, 2) := by decide +kernel
theorem dX1_givesNoLess_59 : decode cX1_givesNoLess 59 = .ok (.iconst 3, 1) := by decide +kernel
theorem dX1_givesNoLess_60 : decode cX1_givesNoLess 60 = .ok (.imul, 1) := by decide +kernel
theorem dX1_givesNoLess_61 : decode cX1_givesNoLess 61 = .ok (.iload_n 1, 1) := by decide +kernel
theorem dX1_givesNoLess_62 : decode cX1_givesNoLess 62 = .ok (.iadd, 1) := by decide +kernel
theorem dX1_givesNoLess_63 : decode cX1_givesNoLess 63 = .ok (.iaload, 1) := by decide +kernel
theorem dX1_givesNoLess_64 : decode cX1_givesNoLess 64 = .ok (.istore 8, 2) := by decide +kernel
theorem dX1_givesNoLess_66 : decode cX1_givesNoLess 66 = .ok (.aload_n 0, 1) := by decide +kernel
theorem dX1_givesNoLess_67 : decode cX1_givesNoLess 67 = .ok (.getfield 15, 3) := by decide +kernel
theorem dX1_givesNoLess_70 : decode cX1_givesNoLess 70 = .ok (.iload 4, 2) := by decide +kernel
theorem dX1_givesNoLess_72 : decode cX1_givesNoLess 72 = .ok (.iload 8, 2) := by decide +kernel
theorem dX1_givesNoLess_74 : decode cX1_givesNoLess 74 = .ok (.iadd, 1) := by decide +kernel
theorem dX1_givesNoLess_75 : decode cX1_givesNoLess 75 = .ok (.iaload, 1) := by decide +kernel
theorem dX1_givesNoLess_76 : decode cX1_givesNoLess 76 = .ok (.aload_n 0, 1) := by decide +kernel
theorem dX1_givesNoLess_77 : decode cX1_givesNoLess 77 = .ok (.getfield 15, 3) := by decide +kernel
theorem dX1_givesNoLess_80 : decode cX1_givesNoLess 80 = .ok (.iload 5, 2) := by decide +kernel
theorem dX1_givesNoLess_82 : decode cX1_givesNoLess 82 = .ok (.iload 6, 2) := by decide +kernel
theorem dX1_givesNoLess_84 : decode cX1_givesNoLess 84 = .ok (.iadd, 1) := by decide +kernel
theorem dX1_givesNoLess_85 : decode cX1_givesNoLess 85 = .ok (.iaload, 1) := by decide +kernel
theorem dX1_givesNoLess_86 : decode cX1_givesNoLess 86 = .ok (.imul, 1) := by decide +kernel
theorem dX1_givesNoLess_87 : decode cX1_givesNoLess 87 = .ok (.aload_n 0, 1) := by decide +kernel
theorem dX1_givesNoLess_88 : decode cX1_givesNoLess 88 = .ok (.getfield 15, 3) := by decide +kernel
theorem dX1_givesNoLess_91 : decode cX1_givesNoLess 91 = .ok (.iload 5, 2) := by decide +kernel
theorem dX1_givesNoLess_93 : decode cX1_givesNoLess 93 = .ok (.iload 8, 2) := by decide +kernel
theorem dX1_givesNoLess_95 : decode cX1_givesNoLess 95 = .ok (.iadd, 1) := by decide +kernel
theorem dX1_givesNoLess_96 : decode cX1_givesNoLess 96 = .ok (.iaload, 1) := by decide +kernel
theorem dX1_givesNoLess_97 : decode cX1_givesNoLess 97 = .ok (.aload_n 0, 1) := by decide +kernel
theorem dX1_givesNoLess_98 : decode cX1_givesNoLess 98 = .ok (.getfield 15, 3) := by decide +kernel
theorem dX1_givesNoLess_101 : decode cX1_givesNoLess 101 = .ok (.iload 4, 2) := by decide +kernel
theorem dX1_givesNoLess_103 : decode cX1_givesNoLess 103 = .ok (.iload 6, 2) := by decide +kernel
theorem dX1_givesNoLess_105 : decode cX1_givesNoLess 105 = .ok (.iadd, 1) := by decide +kernel
theorem dX1_givesNoLess_106 : decode cX1_givesNoLess 106 = .ok (.iaload, 1) := by decide +kernel
theorem dX1_givesNoLess_107 : decode cX1_givesNoLess 107 = .ok (.imul, 1) := by decide +kernel
theorem dX1_givesNoLess_108 : decode cX1_givesNoLess 108 = .ok (.if_icmp .ge 5, 3) := by decide +kernel
theorem dX1_givesNoLess_111 : decode cX1_givesNoLess 111 = .ok (.iconst 0, 1) := by decide +kernel
theorem dX1_givesNoLess_112 : decode cX1_givesNoLess 112 = .ok (.ireturn, 1) := by decide +kernel
theorem dX1_givesNoLess_113 : decode cX1_givesNoLess 113 = .ok (.iinc 7 1, 3) := by decide +kernel
theorem dX1_givesNoLess_116 : decode cX1_givesNoLess 116 = .ok (.goto (-80), 3) := by decide +kernel
theorem dX1_givesNoLess_119 : decode cX1_givesNoLess 119 = .ok (.iconst 1, 1) := by decide +kernel
theorem dX1_givesNoLess_120 : decode cX1_givesNoLess 120 = .ok (.ireturn, 1) := by decide +kernel
theorem dX1_keep_0 : decode cX1_keep 0 = .ok (.aload_n 0, 1) := by decide +kernel
theorem dX1_keep_1 : decode cX1_keep 1 = .ok (.getfield 9, 3) := by decide +kernel
theorem dX1_keep_4 : decode cX1_keep 4 = .ok (.iconst 0, 1) := by decide +kernel
theorem dX1_keep_5 : decode cX1_keep 5 = .ok (.iload_n 1, 1) := by decide +kernel
theorem dX1_keep_6 : decode cX1_keep 6 = .ok (.iastore, 1) := by decide +kernel
theorem dX1_keep_7 : decode cX1_keep 7 = .ok (.aload_n 0, 1) := by decide +kernel
theorem dX1_keep_8 : decode cX1_keep 8 = .ok (.getfield 9, 3) := by decide +kernel
theorem dX1_keep_11 : decode cX1_keep 11 = .ok (.iconst 1, 1) := by decide +kernel
theorem dX1_keep_12 : decode cX1_keep 12 = .ok (.iload_n 2, 1) := by decide +kernel
theorem dX1_keep_13 : decode cX1_keep 13 = .ok (.iastore, 1) := by decide +kernel
theorem dX1_keep_14 : decode cX1_keep 14 = .ok (.aload_n 0, 1) := by decide +kernel
theorem dX1_keep_15 : decode cX1_keep 15 = .ok (.getfield 9, 3) := by decide +kernel
theorem dX1_keep_18 : decode cX1_keep 18 = .ok (.iconst 2, 1) := by decide +kernel
theorem dX1_keep_19 : decode cX1_keep 19 = .ok (.iload_n 3, 1) := by decide +kernel
theorem dX1_keep_20 : decode cX1_keep 20 = .ok (.iastore, 1) := by decide +kernel
theorem dX1_keep_21 : decode cX1_keep 21 = .ok (.aload_n 0, 1) := by decide +kernel
theorem dX1_keep_22 : decode cX1_keep 22 = .ok (.getfield 9, 3) := by decide +kernel
theorem dX1_keep_25 : decode cX1_keep 25 = .ok (.iconst 3, 1) := by decide +kernel
theorem dX1_keep_26 : decode cX1_keep 26 = .ok (.iload 4, 2) := by decide +kernel
theorem dX1_keep_28 : decode cX1_keep 28 = .ok (.iastore, 1) := by decide +kernel
theorem dX1_keep_29 : decode cX1_keep 29 = .ok (.return_, 1) := by decide +kernel
theorem dX1_reason_0 : decode cX1_reason 0 = .ok (.aload_n 0, 1) := by decide +kernel
theorem dX1_reason_1 : decode cX1_reason 1 = .ok (.getfield 30, 3) := by decide +kernel
theorem dX1_reason_4 : decode cX1_reason 4 = .ok (.invokevirtual 107, 3) := by decide +kernel
theorem dX1_reason_7 : decode cX1_reason 7 = .ok (.istore_n 2, 1) := by decide +kernel
theorem dX1_reason_8 : decode cX1_reason 8 = .ok (.iconst 0, 1) := by decide +kernel
theorem dX1_reason_9 : decode cX1_reason 9 = .ok (.istore_n 3, 1) := by decide +kernel
theorem dX1_reason_10 : decode cX1_reason 10 = .ok (.iload_n 3, 1) := by decide +kernel
theorem dX1_reason_11 : decode cX1_reason 11 = .ok (.aload_n 0, 1) := by decide +kernel
theorem dX1_reason_12 : decode cX1_reason 12 = .ok (.getfield 30, 3) := by decide +kernel
theorem dX1_reason_15 : decode cX1_reason 15 = .ok (.getfield 54, 3) := by decide +kernel
theorem dX1_reason_18 : decode cX1_reason 18 = .ok (.if_icmp .ge 31, 3) := by decide +kernel
theorem dX1_reason_21 : decode cX1_reason 21 = .ok (.iload_n 2, 1) := by decide +kernel
theorem dX1_reason_22 : decode cX1_reason 22 = .ok (.iconst 1, 1) := by decide +kernel
theorem dX1_reason_23 : decode cX1_reason 23 = .ok (.iload_n 3, 1) := by decide +kernel
theorem dX1_reason_24 : decode cX1_reason 24 = .ok (.ishl, 1) := by decide +kernel
theorem dX1_reason_25 : decode cX1_reason 25 = .ok (.iconst (-1), 1) := by decide +kernel
theorem dX1_reason_26 : decode cX1_reason 26 = .ok (.ixor, 1) := by decide +kernel
theorem dX1_reason_27 : decode cX1_reason 27 = .ok (.iand, 1) := by decide +kernel
theorem dX1_reason_28 : decode cX1_reason 28 = .ok (.istore 4, 2) := by decide +kernel
theorem dX1_reason_30 : decode cX1_reason 30 = .ok (.aload_n 0, 1) := by decide +kernel
theorem dX1_reason_31 : decode cX1_reason 31 = .ok (.iload 4, 2) := by decide +kernel
theorem dX1_reason_33 : decode cX1_reason 33 = .ok (.iload_n 1, 1) := by decide +kernel
theorem dX1_reason_34 : decode cX1_reason 34 = .ok (.invokevirtual 111, 3) := by decide +kernel
theorem dX1_reason_37 : decode cX1_reason 37 = .ok (.ifCond .eq 6, 3) := by decide +kernel
theorem dX1_reason_40 : decode cX1_reason 40 = .ok (.iload 4, 2) := by decide +kernel
theorem dX1_reason_42 : decode cX1_reason 42 = .ok (.istore_n 2, 1) := by decide +kernel
theorem dX1_reason_43 : decode cX1_reason 43 = .ok (.iinc 3 1, 3) := by decide +kernel
theorem dX1_reason_46 : decode cX1_reason 46 = .ok (.goto (-36), 3) := by decide +kernel
theorem dX1_reason_49 : decode cX1_reason 49 = .ok (.iload_n 2, 1) := by decide +kernel
theorem dX1_reason_50 : decode cX1_reason 50 = .ok (.ireturn, 1) := by decide +kernel
end
section
/-! dual functions -/
def pworth (L n x : Int) : Int :=
  if n = 0 then x else if n ≤ L / 2 then (if L - n < x then L else if x < n then 0 else x)
  else if 2 * x < L then 2 * (x / (n - L / 2)) else if 2 * x = L then L / (n - L / 2) else 2 * (L / (n - L / 2) - (L - x) / (n - L / 2))
def pworth_ok (L n x : Nat) : Bool := !(decide (1 ≤ L) && decide (n ≤ L / 2 * 2) && decide (x ≤ L)) || (decide (0 ≤ pworth L n x) && decide (pworth L n x ≤ pworth L n L) && decide (1 ≤ pworth L n L) && decide (pworth L n L ≤ 40))
theorem pworth_all0 : ((List.range 21).all fun L => (List.range 21).all fun n => (List.range 21).all fun x => pworth_ok L n x) = true := by decide +kernel
theorem pworth_all (L : Nat) (hL : L < 21) (n : Nat) (hn : n < 21) (x : Nat) (hx : x < 21) (h : 1 ≤ L ∧ n ≤ L / 2 * 2 ∧ x ≤ L) : 0 ≤ pworth L n x ∧ pworth L n x ≤ pworth L n L ∧ 1 ≤ pworth L n L ∧ pworth L n L ≤ 40 := by
  have h1 := List.all_eq_true.mp (List.all_eq_true.mp (List.all_eq_true.mp pworth_all0 L (List.mem_range.mpr hL)) n (List.mem_range.mpr hn)) x (List.mem_range.mpr hx)
  unfold pworth_ok at h1
  simp only [Bool.or_eq_true, Bool.and_eq_true, Bool.not_eq_true', Bool.and_eq_false_iff, decide_eq_true_eq, decide_eq_false_iff_not] at h1
  rcases h1 with h1 | h1
  · omega
  · exact ⟨h1.1.1.1, h1.1.1.2, h1.1.2, h1.2⟩
theorem pworth_in {L n x : Int} (hL : 1 ≤ L ∧ L ≤ 20) (hn : 0 ≤ n ∧ n ≤ L / 2 * 2) (hx : 0 ≤ x ∧ x ≤ L) : 0 ≤ pworth L n x ∧ pworth L n x ≤ pworth L n L ∧ 1 ≤ pworth L n L ∧ pworth L n L ≤ 40 := by
  obtain ⟨l, rfl⟩ := Int.eq_ofNat_of_zero_le (show 0 ≤ L by omega)
  obtain ⟨m, rfl⟩ := Int.eq_ofNat_of_zero_le hn.1
  obtain ⟨y, rfl⟩ := Int.eq_ofNat_of_zero_le hx.1
  exact pworth_all l (by omega) m (by omega) y (by omega) ⟨by omega, by omega, by omega⟩
end
section
theorem c_lastF {G : jG} (hG : cG G) (S : jMem) (a : Int) (hk : cOK S) (ha : 0 ≤ a ∧ a < 3) : jM G yX1_lastFunction cX1_lastFunction 2 (some .int) 0 0 [.ref (jad G 25), .int (iI (a))] S (jPi (fun v S' => S 2 a / 2 * 2 = v ∧ S = S')) := by
  refine jM.of (by decide) (Nat.le_of_ble_eq_true rfl) (fun E C R => ?_)
  show J E G 0 [(0, .ref (jad G 25)), (1, .int (iI (a)))] [] _
  refine J_aload_n C 0 dX1_lastFunction_0 rfl ?_
  refine g_X1_30 hG C dX1_lastFunction_1 ?_
  refine g_X1_41 hG C dX1_lastFunction_4 ?_
  refine J_iload_n C 1 dX1_lastFunction_7 rfl ?_
  refine cald hG C 2 3 (by decide) dX1_lastFunction_8 (by omega) (by omega) ?_
  have m1 := hk.2.1 (a) (by omega) (by omega)
  refine J_iconst C dX1_lastFunction_9 ?_
  refine J_idiv C dX1_lastFunction_10 (by omega) (by omega) (by omega) (by omega) ?_
  refine J_iconst C dX1_lastFunction_11 ?_
  refine J_imul C dX1_lastFunction_12 ?_
  exact J_iret R C dX1_lastFunction_13 (jPi.mk ⟨by rfl, rfl⟩)
theorem c_isF {G : jG} (hG : cG G) (S : jMem) (a n : Int) (hk : cOK S) (ha : 0 ≤ a ∧ a < 3) (hn : inR n) : jM G yX1_isFunction cX1_isFunction 3 (some .boolean) 1 21 [.ref (jad G 25), .int (iI (a)), .int (iI (n))] S (jPi (fun v S' => bb (0 ≤ n ∧ n ≤ S 2 a / 2 * 2) = v ∧ S = S')) := by
  refine jM.of (by decide) (Nat.le_of_ble_eq_true rfl) (fun E C R => ?_)
  show J E G 0 [(0, .ref (jad G 25)), (1, .int (iI (a))), (2, .int (iI (n)))] [] _
  refine J_iload_n C 2 dX1_isFunction_0 rfl ?_
  refine J_if_lt C 17 dX1_isFunction_1 (by decide) (by omega) (fun h1 => ?_) (fun h1 => ?_)
  · refine J_iconst C dX1_isFunction_17 ?_
    exact J_zret R C dX1_isFunction_18 (by first | exact Or.inl rfl | exact Or.inr rfl | omega) (jPi.mk ⟨by first | exact bb_t (by omega) | exact bb_f (by omega), rfl⟩)
  · refine J_iload_n C 2 dX1_isFunction_4 rfl ?_
    refine J_aload_n C 0 dX1_isFunction_5 rfl ?_
    refine J_iload_n C 1 dX1_isFunction_6 rfl ?_
    refine J_callV (k := 25) (rest := [.int (iI (n))]) C (c_lastF hG S (a) hk (by omega)) kc_X1_lastFunction kl_X1_46 (by rw [hG.2]; decide) (by rw [hG.1]; rfl) rfl dX1_isFunction_7 rfl rfl (by decide) (Nat.le_of_ble_eq_true rfl) (J_ki (fun v2 S2 h2 => ?_))
    obtain ⟨rfl, rfl⟩ := h2
    have q1 := hk.2.1 (a) (by omega) (by omega)
    refine J_icmp_gt C 17 dX1_isFunction_10 (by decide) (by omega) (by omega) (fun h3 => ?_) (fun h3 => ?_)
    · refine J_iconst C dX1_isFunction_17 ?_
      exact J_zret R C dX1_isFunction_18 (by first | exact Or.inl rfl | exact Or.inr rfl | omega) (jPi.mk ⟨by first | exact bb_t (by omega) | exact bb_f (by omega), rfl⟩)
    · refine J_iconst C dX1_isFunction_13 ?_
      refine J_goto C 18 dX1_isFunction_14 (by decide) ?_
      exact J_zret R C dX1_isFunction_18 (by first | exact Or.inl rfl | exact Or.inr rfl | omega) (jPi.mk ⟨by first | exact bb_t (by omega) | exact bb_f (by omega), rfl⟩)
theorem c_valueOf {G : jG} (hG : cG G) (S : jMem) (L n x : Int) (hL : 1 ≤ L ∧ L ≤ 20) (hn : 0 ≤ n ∧ n ≤ L / 2 * 2) (hx : 0 ≤ x ∧ x ≤ L) : jM G yX1_valueOf cX1_valueOf 6 (some .int) 0 0 [.int (iI (L)), .int (iI (n)), .int (iI (x))] S (jPi (fun v S' => pworth L n x = v ∧ S = S')) := by
  refine jM.of (by decide) (Nat.le_of_ble_eq_true rfl) (fun E C R => ?_)
  show J E G 0 [(0, .int (iI (L))), (1, .int (iI (n))), (2, .int (iI (x)))] [] _
  refine J_iload_n C 1 dX1_valueOf_0 rfl ?_
  refine J_if_ne C 6 dX1_valueOf_1 (by decide) (by omega) (fun h1 => ?_) (fun h1 => ?_)
  · refine J_iload_n C 0 dX1_valueOf_6 rfl ?_
    refine J_iconst C dX1_valueOf_7 ?_
    refine J_idiv C dX1_valueOf_8 (by omega) (by omega) (by omega) (by omega) ?_
    refine J_istore_n (lv' := [(3, .int (iI ((L) / (2)))), (0, .int (iI (L))), (1, .int (iI (n))), (2, .int (iI (x)))]) C dX1_valueOf_9 (by decide) rfl ?_
    refine J_iload_n C 2 dX1_valueOf_10 rfl ?_
    refine J_iload_n C 0 dX1_valueOf_11 rfl ?_
    refine J_icmp_gt C 37 dX1_valueOf_12 (by decide) (by omega) (by omega) (fun h2 => ?_) (fun h2 => ?_)
    · refine J_iload_n C 2 dX1_valueOf_37 rfl ?_
      refine J_iload_n C 0 dX1_valueOf_38 rfl ?_
      refine J_isub C dX1_valueOf_39 ?_
      refine J_istore (lv' := [(4, .int (iI ((n) - ((L) / (2))))), (3, .int (iI ((L) / (2)))), (0, .int (iI (L))), (1, .int (iI (n))), (2, .int (iI (x)))]) C dX1_valueOf_40 (by decide) rfl ?_
      refine J_iload_n C 2 dX1_valueOf_42 rfl ?_
      refine J_iload C 0 dX1_valueOf_43 rfl ?_
      refine J_idiv C dX1_valueOf_45 (by omega) (by omega) (by omega) (by omega) ?_
      refine J_istore (lv' := [(5, .int (iI ((L) / ((n) - ((L) / (2)))))), (4, .int (iI ((n) - ((L) / (2))))), (3, .int (iI ((L) / (2)))), (0, .int (iI (L))), (1, .int (iI (n))), (2, .int (iI (x)))]) C dX1_valueOf_46 (by decide) rfl ?_
      refine J_iconst C dX1_valueOf_48 ?_
      refine J_iload_n C 5 dX1_valueOf_49 rfl ?_
      refine J_imul C dX1_valueOf_50 ?_
      refine J_iload_n C 3 dX1_valueOf_51 rfl ?_
      refine J_icmp_ge C 62 dX1_valueOf_52 (by decide) (by omega) (by omega) (fun h3 => ?_) (fun h3 => ?_)
      · refine J_iconst C dX1_valueOf_62 ?_
        refine J_iload_n C 5 dX1_valueOf_63 rfl ?_
        refine J_imul C dX1_valueOf_64 ?_
        refine J_iload_n C 3 dX1_valueOf_65 rfl ?_
        refine J_icmp_ne C 74 dX1_valueOf_66 (by decide) (by omega) (by omega) (fun h4 => ?_) (fun h4 => ?_)
        · refine J_iconst C dX1_valueOf_74 ?_
          refine J_iload C 0 dX1_valueOf_75 rfl ?_
          refine J_iload_n C 3 dX1_valueOf_77 rfl ?_
          refine J_iload_n C 5 dX1_valueOf_78 rfl ?_
          refine J_isub C dX1_valueOf_79 ?_
          refine J_iload C 1 dX1_valueOf_80 rfl ?_
          refine J_idiv C dX1_valueOf_82 (by omega) (by omega) (by omega) (by omega) ?_
          refine J_isub C dX1_valueOf_83 ?_
          refine J_imul C dX1_valueOf_84 ?_
          exact J_iret R C dX1_valueOf_85 (jPi.mk ⟨by unfold pworth; (repeat first | rw [if_pos (by omega)] | rw [if_neg (by omega)]); try omega, rfl⟩)
        · refine J_iload C 0 dX1_valueOf_69 rfl ?_
          refine J_goto C 85 dX1_valueOf_71 (by decide) ?_
          exact J_iret R C dX1_valueOf_85 (jPi.mk ⟨by unfold pworth; (repeat first | rw [if_pos (by omega)] | rw [if_neg (by omega)]); try omega, rfl⟩)
      · refine J_iconst C dX1_valueOf_55 ?_
        refine J_iload_n C 5 dX1_valueOf_56 rfl ?_
        refine J_iload C 1 dX1_valueOf_57 rfl ?_
        refine J_idiv C dX1_valueOf_59 (by omega) (by omega) (by omega) (by omega) ?_
        refine J_imul C dX1_valueOf_60 ?_
        exact J_iret R C dX1_valueOf_61 (jPi.mk ⟨by unfold pworth; (repeat first | rw [if_pos (by omega)] | rw [if_neg (by omega)]); try omega, rfl⟩)
    · refine J_iload_n C 3 dX1_valueOf_15 rfl ?_
      refine J_iload_n C 1 dX1_valueOf_16 rfl ?_
      refine J_iload_n C 2 dX1_valueOf_17 rfl ?_
      refine J_isub C dX1_valueOf_18 ?_
      refine J_icmp_le C 26 dX1_valueOf_19 (by decide) (by omega) (by omega) (fun h5 => ?_) (fun h5 => ?_)
      · refine J_iload_n C 3 dX1_valueOf_26 rfl ?_
        refine J_iload_n C 2 dX1_valueOf_27 rfl ?_
        refine J_icmp_ge C 35 dX1_valueOf_28 (by decide) (by omega) (by omega) (fun h6 => ?_) (fun h6 => ?_)
        · refine J_iload_n C 3 dX1_valueOf_35 rfl ?_
          exact J_iret R C dX1_valueOf_36 (jPi.mk ⟨by unfold pworth; (repeat first | rw [if_pos (by omega)] | rw [if_neg (by omega)]); try omega, rfl⟩)
        · refine J_iconst C dX1_valueOf_31 ?_
          refine J_goto C 36 dX1_valueOf_32 (by decide) ?_
          exact J_iret R C dX1_valueOf_36 (jPi.mk ⟨by unfold pworth; (repeat first | rw [if_pos (by omega)] | rw [if_neg (by omega)]); try omega, rfl⟩)
      · refine J_iload_n C 1 dX1_valueOf_22 rfl ?_
        refine J_goto C 36 dX1_valueOf_23 (by decide) ?_
        exact J_iret R C dX1_valueOf_36 (jPi.mk ⟨by unfold pworth; (repeat first | rw [if_pos (by omega)] | rw [if_neg (by omega)]); try omega, rfl⟩)
  · refine J_iload_n C 2 dX1_valueOf_4 rfl ?_
    exact J_iret R C dX1_valueOf_5 (jPi.mk ⟨by unfold pworth; (repeat first | rw [if_pos (by omega)] | rw [if_neg (by omega)]); try omega, rfl⟩)
theorem c_forget {G : jG} (hG : cG G) (S : jMem) : jM G yX1_forget cX1_forget 1 none 0 0 [.ref (jad G 25)] S (jPv (fun S' => up2 (up2 S 25 8 0) 25 9 0 = S')) := by
  refine jM.of (by decide) (Nat.le_of_ble_eq_true rfl) (fun E C R => ?_)
  show J E G 0 [(0, .ref (jad G 25))] [] _
  refine J_aload_n C 0 dX1_forget_0 rfl ?_
  refine J_iconst C dX1_forget_1 ?_
  refine p_X1_34 hG C (by first | exact Or.inl rfl | exact Or.inr rfl | omega) dX1_forget_2 ?_
  refine J_aload_n C 0 dX1_forget_5 rfl ?_
  refine J_iconst C dX1_forget_6 ?_
  refine p_X1_38 hG C (by first | exact Or.inl rfl | exact Or.inr rfl | omega) dX1_forget_7 ?_
  exact J_vret R C dX1_forget_10 (jPv.mk (by rfl))
theorem c_keep {G : jG} (hG : cG G) (S : jMem) (a b c d : Int) : jM G yX1_keep cX1_keep 5 none 0 0 [.ref (jad G 25), .int (iI (a)), .int (iI (b)), .int (iI (c)), .int (iI (d))] S (jPv (fun S' => up2 (up2 (up2 (up2 S 26 0 a) 26 1 b) 26 2 c) 26 3 d = S')) := by
  refine jM.of (by decide) (Nat.le_of_ble_eq_true rfl) (fun E C R => ?_)
  show J E G 0 [(0, .ref (jad G 25)), (1, .int (iI (a))), (2, .int (iI (b))), (3, .int (iI (c))), (4, .int (iI (d)))] [] _
  refine J_aload_n C 0 dX1_keep_0 rfl ?_
  refine g_X1_9 hG C dX1_keep_1 ?_
  refine J_iconst C dX1_keep_4 ?_
  refine J_iload_n C 1 dX1_keep_5 rfl ?_
  refine cast hG C 26 4 (by decide) dX1_keep_6 (by omega) (by omega) ?_
  refine J_aload_n C 0 dX1_keep_7 rfl ?_
  refine g_X1_9 hG C dX1_keep_8 ?_
  refine J_iconst C dX1_keep_11 ?_
  refine J_iload_n C 2 dX1_keep_12 rfl ?_
  refine cast hG C 26 4 (by decide) dX1_keep_13 (by omega) (by omega) ?_
  refine J_aload_n C 0 dX1_keep_14 rfl ?_
  refine g_X1_9 hG C dX1_keep_15 ?_
  refine J_iconst C dX1_keep_18 ?_
  refine J_iload_n C 3 dX1_keep_19 rfl ?_
  refine cast hG C 26 4 (by decide) dX1_keep_20 (by omega) (by omega) ?_
  refine J_aload_n C 0 dX1_keep_21 rfl ?_
  refine g_X1_9 hG C dX1_keep_22 ?_
  refine J_iconst C dX1_keep_25 ?_
  refine J_iload C 4 dX1_keep_26 rfl ?_
  refine cast hG C 26 4 (by decide) dX1_keep_28 (by omega) (by omega) ?_
  exact J_vret R C dX1_keep_29 (jPv.mk (by rfl))
theorem c_isTried {G : jG} (hG : cG G) (S : jMem) (a n : Int) (ht : 0 ≤ S 31 a ∧ S 31 a ≤ 2147483647) (ha : 0 ≤ a ∧ a < 3) (hn : 0 ≤ n ∧ n < 32) : jM G yX1_isTried cX1_isTried 3 (some .boolean) 0 0 [.ref (jad G 25), .int (iI (a)), .int (iI (n))] S (jPi (fun v S' => bb (zbit (S 31 a) n) = v ∧ S = S')) := by
  refine jM.of (by decide) (Nat.le_of_ble_eq_true rfl) (fun E C R => ?_)
  show J E G 0 [(0, .ref (jad G 25)), (1, .int (iI (a))), (2, .int (iI (n)))] [] _
  have h5 := zdiv_in ht.1 n.toNat
  refine J_aload_n C 0 dX1_isTried_0 rfl ?_
  refine g_X1_27 hG C dX1_isTried_1 ?_
  refine J_iload_n C 1 dX1_isTried_4 rfl ?_
  refine cald hG C 31 3 (by decide) dX1_isTried_5 (by omega) (by omega) ?_
  refine J_iload_n C 2 dX1_isTried_6 rfl ?_
  refine J_ishr C dX1_isTried_7 (by omega) (by omega) (by omega) ?_
  refine J_iconst C dX1_isTried_8 ?_
  refine J_iand C (((S 31 (a)) / 2 ^ (n).toNat) % 2) dX1_isTried_9 (iI_and1 _ (by omega)) ?_
  refine J_iconst C dX1_isTried_10 ?_
  refine J_icmp_ne C 18 dX1_isTried_11 (by decide) (by omega) (by omega) (fun h1 => ?_) (fun h1 => ?_)
  · refine J_iconst C dX1_isTried_18 ?_
    exact J_zret R C dX1_isTried_19 (by first | exact Or.inl rfl | exact Or.inr rfl | omega) (jPi.mk ⟨by first | exact bb_t (by assumption) | exact bb_f (by assumption), rfl⟩)
  · refine J_iconst C dX1_isTried_14 ?_
    refine J_goto C 19 dX1_isTried_15 (by decide) ?_
    exact J_zret R C dX1_isTried_19 (by first | exact Or.inl rfl | exact Or.inr rfl | omega) (jPi.mk ⟨by first | exact bb_t (by assumption) | exact bb_f (by assumption), rfl⟩)
theorem c_binHas {G : jG} (hG : cG G) (S : jMem) (n : Int) (hk : cOK S) (hn : 0 ≤ n ∧ n ≤ 20) : jM G yX1_binHas cX1_binHas 2 (some .int) 0 0 [.ref (jad G 25), .int (iI (n))] S (jPi (fun v S' => S 25 6 * S 27 ((2 * 21 + n) * 21 + S 2 2) = v ∧ S = S')) := by
  refine jM.of (by decide) (Nat.le_of_ble_eq_true rfl) (fun E C R => ?_)
  show J E G 0 [(0, .ref (jad G 25)), (1, .int (iI (n)))] [] _
  refine J_aload_n C 0 dX1_binHas_0 rfl ?_
  refine g_X1_73 hG C dX1_binHas_1 ?_
  refine J_aload_n C 0 dX1_binHas_4 rfl ?_
  refine g_X1_15 hG C dX1_binHas_5 ?_
  refine J_bipush C dX1_binHas_8 (by decide) ?_
  refine J_iload_n C 1 dX1_binHas_10 rfl ?_
  refine J_iadd C dX1_binHas_11 ?_
  refine J_bipush C dX1_binHas_12 (by decide) ?_
  refine J_imul C dX1_binHas_14 ?_
  refine J_aload_n C 0 dX1_binHas_15 rfl ?_
  refine g_X1_30 hG C dX1_binHas_16 ?_
  refine g_X1_41 hG C dX1_binHas_19 ?_
  refine J_iconst C dX1_binHas_22 ?_
  refine cald hG C 2 3 (by decide) dX1_binHas_23 (by omega) (by omega) ?_
  have m1 := hk.2.1 (2) (by omega) (by omega)
  refine J_iadd C dX1_binHas_24 ?_
  refine cald hG C 27 1323 (by decide) dX1_binHas_25 (by omega) (by omega) ?_
  refine J_imul C dX1_binHas_26 ?_
  exact J_iret R C dX1_binHas_27 (jPi.mk ⟨by rfl, rfl⟩)
end
section
theorem cOK.eq {S S0 : jMem} (h1 : S 1 = S0 1) (h2 : S 2 = S0 2) (h3 : S 3 = S0 3) (h4 : S 4 = S0 4) (h5 : S 5 = S0 5) (hk : cOK S0) : cOK S := by
  show sOK (S 1 4) (S 2) (S 3) (S 4) (S 5)
  rw [h1, h2, h3, h4, h5]; exact hk
/-- only this cell may have changed -/
def only (q : Nat) (S0 S : jMem) : Prop := ∀ k, k ≠ q → S k = S0 k
theorem only.rf {q : Nat} {S : jMem} : only q S S := fun _ _ => rfl
theorem only.up {q : Nat} {S0 S : jMem} (h : only q S0 S) (a v : Int) : only q S0 (up2 S q a v) := fun k hk => by rw [up2_k S a v hk]; exact h k hk
theorem only.tr {q : Nat} {S0 S1 S2 : jMem} (h : only q S0 S1) (h2 : only q S1 S2) : only q S0 S2 := fun k hk => (h2 k hk).trans (h k hk)
theorem only.ok {q : Nat} {S0 S : jMem} (h : only q S0 S) (hq : 5 < q) (hk : cOK S0) : cOK S := cOK.eq (h 1 (by omega)) (h 2 (by omega)) (h 3 (by omega)) (h 4 (by omega)) (h 5 (by omega)) hk
def tvI (S0 : jMem) (a n x : Int) (S : jMem) : Prop := only 27 S0 S ∧ (∀ i, (i < a * 441 ∨ (a + 1) * 441 ≤ i) → S 27 i = S0 27 i) ∧ (∀ n' x', 0 ≤ n' → n' ≤ S0 2 a / 2 * 2 → 0 ≤ x' → x' ≤ S0 2 a → (n' < n ∨ n' = n ∧ x' < x) → S 27 ((a * 21 + n') * 21 + x') = pworth (S0 2 a) n' x')
theorem tvI.put {S0 S : jMem} {a n x : Int} (h : tvI S0 a n x S) (hL : 1 ≤ S0 2 a ∧ S0 2 a ≤ 20) (ha : 0 ≤ a ∧ a < 3) (hn : 0 ≤ n ∧ n ≤ S0 2 a / 2 * 2) (hx : 0 ≤ x ∧ x ≤ S0 2 a) : tvI S0 a n (x + 1) (up2 S 27 ((a * 21 + n) * 21 + x) (pworth (S0 2 a) n x)) := by
  obtain ⟨h1, h2, h3⟩ := h
  refine ⟨h1.up _ _, fun i hi => ?_, fun n' x' a1 a2 a3 a4 a5 => ?_⟩
  · rw [up2_a _ _ _ (by omega)]; exact h2 i hi
  · by_cases c : n' = n ∧ x' = x
    · obtain ⟨rfl, rfl⟩ := c
      rw [up2_eq]
    · rw [up2_a _ _ _ (by omega)]
      exact h3 n' x' a1 a2 a3 a4 (by omega)
theorem tvI.next {S0 S : jMem} {a n x : Int} (h : tvI S0 a n x S) (hx : S0 2 a < x) : tvI S0 a (n + 1) 0 S := ⟨h.1, h.2.1, fun n' x' a1 a2 a3 a4 a5 => h.2.2 n' x' a1 a2 a3 a4 (by omega)⟩
/-- the values of an axis' functions are told -/
def vOK (S : jMem) (a : Int) : Prop := ∀ n x, 0 ≤ n → n ≤ S 2 a / 2 * 2 → 0 ≤ x → x ≤ S 2 a → S 27 ((a * 21 + n) * 21 + x) = pworth (S 2 a) n x
end
section
theorem l_tv2 {E : jEnv} {G : jG} (hG : cG G) (C : jX E G cX1_tellValues 5 RX1 1 25) (S0 : jMem) (a n : Int) (hk : cOK S0) (ha : 0 ≤ a ∧ a < 3) (hn : 0 ≤ n ∧ n ≤ S0 2 a / 2 * 2) : ∀ (mm : Nat) (x : Int) (S : jMem), mm = (S0 2 a + 1 - x).toNat → (tvI S0 a n x S ∧ (0 ≤ x ∧ x ≤ S0 2 a + 1)) → (∀ S', tvI S0 a (n + 1) 0 S' → J E G 60 [(0, .ref (jad G 25)), (1, .int (iI a)), (2, .int (iI (S0 2 a))), (3, .int (iI n))] [] S') → J E G 24 [(0, .ref (jad G 25)), (1, .int (iI (a))), (2, .int (iI (S0 2 (a)))), (3, .int (iI (n))), (4, .int (iI (x)))] [] S := by
  intro mm
  induction mm using Nat.strongRecOn with | ind mm ih => ?_
  intro x S hm hi K
  have hL := hk.2.1 a (by omega) (by omega)
  refine J_iload C 4 dX1_tellValues_24 rfl ?_
  refine J_iload_n C 2 dX1_tellValues_26 rfl ?_
  refine J_icmp_gt C 60 dX1_tellValues_27 (by decide) (by omega) (by omega) (fun h1 => ?_) (fun h1 => ?_)
  · refine J_lv [0, 1, 2, 3] rfl ?_
    exact K S (hi.1.next (by omega))
  · refine J_aload_n C 0 dX1_tellValues_30 rfl ?_
    refine g_X1_15 hG C dX1_tellValues_31 ?_
    refine J_iload_n C 1 dX1_tellValues_34 rfl ?_
    refine J_bipush C dX1_tellValues_35 (by decide) ?_
    refine J_imul C dX1_tellValues_37 ?_
    refine J_iload_n C 3 dX1_tellValues_38 rfl ?_
    refine J_iadd C dX1_tellValues_39 ?_
    refine J_bipush C dX1_tellValues_40 (by decide) ?_
    refine J_imul C dX1_tellValues_42 ?_
    refine J_iload C 4 dX1_tellValues_43 rfl ?_
    refine J_iadd C dX1_tellValues_45 ?_
    refine J_iload_n C 2 dX1_tellValues_46 rfl ?_
    refine J_iload_n C 3 dX1_tellValues_47 rfl ?_
    refine J_iload C 4 dX1_tellValues_48 rfl ?_
    refine J_callS (rest := [.int (iI (((((a) * (21)) + (n)) * (21)) + (x))), .ref (jad G 27)]) C (c_valueOf hG S (S0 2 (a)) (n) (x) (by omega) (by omega) (by omega)) kc_X1_valueOf kl_X1_62 dX1_tellValues_50 rfl rfl (by decide) (Nat.le_of_ble_eq_true rfl) (J_ki (fun v2 S2 h2 => ?_))
    obtain ⟨rfl, rfl⟩ := h2
    refine cast hG C 27 1323 (by decide) dX1_tellValues_53 (by omega) (by omega) ?_
    refine J_iinc (lv' := [(4, .int (iI (x + 1))), (0, .ref (jad G 25)), (1, .int (iI (a))), (2, .int (iI (S0 2 (a)))), (3, .int (iI (n)))]) C 4 dX1_tellValues_54 rfl (by decide) rfl ?_
    refine J_goto C 24 dX1_tellValues_57 (by decide) ?_
    refine J_lv [1, 2, 3, 4, 0] rfl ?_
    exact ih _ (by omega) (x + 1) _ rfl ⟨hi.1.put hL ha hn (by omega), by omega⟩ K
theorem l_tv1 {E : jEnv} {G : jG} (hG : cG G) (C : jX E G cX1_tellValues 5 RX1 1 25) (S0 : jMem) (a : Int) (hk : cOK S0) (ha : 0 ≤ a ∧ a < 3) (R : jR E G none (jPv (fun S' => only 27 S0 S' ∧ vOK S' a ∧ ∀ i, (i < a * 441 ∨ (a + 1) * 441 ≤ i) → S' 27 i = S0 27 i))) : ∀ (mm : Nat) (n : Int) (S : jMem), mm = (S0 2 a / 2 * 2 + 1 - n).toNat → (tvI S0 a n 0 S ∧ (0 ≤ n ∧ n ≤ S0 2 a / 2 * 2 + 1)) → J E G 12 [(0, .ref (jad G 25)), (1, .int (iI (a))), (2, .int (iI (S0 2 (a)))), (3, .int (iI (n)))] [] S := by
  intro mm
  induction mm using Nat.strongRecOn with | ind mm ih => ?_
  intro n S hm hi0
  obtain ⟨hi, hj⟩ := hi0
  have hL := hk.2.1 a (by omega) (by omega)
  refine J_iload_n C 3 dX1_tellValues_12 rfl ?_
  refine J_aload_n C 0 dX1_tellValues_13 rfl ?_
  refine J_iload_n C 1 dX1_tellValues_14 rfl ?_
  refine J_callV (k := 25) (rest := [.int (iI (n))]) C (c_lastF hG S (a) (hi.1.ok (by decide) hk) (by omega)) kc_X1_lastFunction kl_X1_46 (by rw [hG.2]; decide) (by rw [hG.1]; rfl) rfl dX1_tellValues_15 rfl rfl (by decide) (Nat.le_of_ble_eq_true rfl) (J_ki (fun v1 S1 h1 => ?_))
  obtain ⟨rfl, rfl⟩ := h1
  refine J_top (b := S0 2 (a) / 2 * 2) (by rw [hi.1 2 (by decide)]) ?_
  refine J_icmp_gt C 66 dX1_tellValues_18 (by decide) (by omega) (by omega) (fun h2 => ?_) (fun h2 => ?_)
  · exact J_vret R C dX1_tellValues_66 (jPv.mk ⟨hi.1, fun n2 x2 a1 a2 a3 a4 => by rw [hi.1 2 (by decide)] at a2 a4 ⊢; exact hi.2.2 n2 x2 a1 a2 a3 a4 (by omega), hi.2.1⟩)
  · refine J_iconst C dX1_tellValues_21 ?_
    refine J_istore (lv' := [(4, .int (iI (0))), (0, .ref (jad G 25)), (1, .int (iI (a))), (2, .int (iI (S0 2 (a)))), (3, .int (iI (n)))]) C dX1_tellValues_22 (by decide) rfl ?_
    refine J_lv [1, 2, 3, 4, 0] rfl ?_
    refine l_tv2 hG C S0 a n hk ha (by omega) _ 0 S rfl ⟨hi, by omega⟩ (fun S' hi' => ?_)
    refine J_iinc (lv' := [(3, .int (iI (n + 1))), (0, .ref (jad G 25)), (1, .int (iI a)), (2, .int (iI (S0 2 a)))]) C 3 dX1_tellValues_60 rfl (by decide) rfl ?_
    refine J_goto C 12 dX1_tellValues_63 (by decide) ?_
    refine J_lv [1, 2, 3, 0] rfl ?_
    exact ih _ (by omega) (n + 1) S' rfl ⟨hi', by omega⟩
theorem c_tellValues {G : jG} (hG : cG G) (S0 : jMem) (a : Int) (hk : cOK S0) (ha : 0 ≤ a ∧ a < 3) : jM G yX1_tellValues cX1_tellValues 5 none 1 25 [.ref (jad G 25), .int (iI (a))] S0 (jPv (fun S' => only 27 S0 S' ∧ vOK S' a ∧ ∀ i, (i < a * 441 ∨ (a + 1) * 441 ≤ i) → S' 27 i = S0 27 i)) := by
  refine jM.of (by decide) (Nat.le_of_ble_eq_true rfl) (fun E C R => ?_)
  show J E G 0 [(0, .ref (jad G 25)), (1, .int (iI (a)))] [] _
  refine J_aload_n C 0 dX1_tellValues_0 rfl ?_
  refine g_X1_30 hG C dX1_tellValues_1 ?_
  refine g_X1_41 hG C dX1_tellValues_4 ?_
  refine J_iload_n C 1 dX1_tellValues_7 rfl ?_
  refine cald hG C 2 3 (by decide) dX1_tellValues_8 (by omega) (by omega) ?_
  have m1 := hk.2.1 (a) (by omega) (by omega)
  refine J_istore_n (lv' := [(2, .int (iI (S0 2 (a)))), (0, .ref (jad G 25)), (1, .int (iI (a)))]) C dX1_tellValues_9 (by decide) rfl ?_
  refine J_iconst C dX1_tellValues_10 ?_
  refine J_istore_n (lv' := [(3, .int (iI (0))), (2, .int (iI (S0 2 (a)))), (0, .ref (jad G 25)), (1, .int (iI (a)))]) C dX1_tellValues_11 (by decide) rfl ?_
  refine J_lv [2, 3, 1, 0] rfl ?_
  exact l_tv1 hG C S0 a hk ha R _ 0 S0 rfl ⟨⟨only.rf, fun _ _ => rfl, fun n2 x2 a1 a2 a3 a4 a5 => by omega⟩, by omega⟩
end
section
/-- all cells but these are as they were -/
def keeps (ks : List Nat) (S0 S : jMem) : Prop := ∀ k, k ∉ ks → S k = S0 k
theorem keeps.rf {ks : List Nat} {S : jMem} : keeps ks S S := fun _ _ => rfl
theorem keeps.up {ks : List Nat} {S0 S : jMem} (h : keeps ks S0 S) {q : Nat} (hq : q ∈ ks) (a v : Int) : keeps ks S0 (up2 S q a v) := fun k hk => by
  have hne : k ≠ q := fun e => hk (e ▸ hq)
  rw [up2_k S a v hne]; exact h k hk
theorem keeps.on {ks : List Nat} {S0 S S1 : jMem} (h : keeps ks S0 S) {q : Nat} (hq : q ∈ ks) (h2 : only q S S1) : keeps ks S0 S1 := fun k hk => (h2 k (fun e => hk (e ▸ hq))).trans (h k hk)
theorem keeps.tr {ks : List Nat} {S0 S S1 : jMem} (h : keeps ks S0 S) (h2 : keeps ks S S1) : keeps ks S0 S1 := fun k hk => (h2 k hk).trans (h k hk)
theorem keeps.wide {ks ks' : List Nat} {S0 S : jMem} (h : keeps ks S0 S) (h2 : ∀ k ∈ ks, k ∈ ks') : keeps ks' S0 S := fun k hk => h k (fun hq => hk (h2 k hq))
theorem keeps.ok {ks : List Nat} {S0 S : jMem} (h : keeps ks S0 S) (hq : 1 ∉ ks ∧ 2 ∉ ks ∧ 3 ∉ ks ∧ 4 ∉ ks ∧ 5 ∉ ks) (hk : cOK S0) : cOK S := cOK.eq (h 1 hq.1) (h 2 hq.2.1) (h 3 hq.2.2.1) (h 4 hq.2.2.2.1) (h 5 hq.2.2.2.2) hk
/-- row i of f are the extents of a box in a turn -/
def rowIs (f sid : Int → Int) (i b t : Int) : Prop := f (i * 3 + 0) = pext sid b t 0 ∧ f (i * 3 + 1) = pext sid b t 1 ∧ f (i * 3 + 2) = pext sid b t 2
/-- rows lo .. hi - 1 are those of the box's turns that count, of turns below u -/
def tOK (len sid tb f : Int → Int) (b lo hi u : Int) : Prop := (∀ i, lo ≤ i → i < hi → ∃ t, (0 ≤ t ∧ t < u) ∧ pcounts len sid tb b t ∧ rowIs f sid i b t) ∧ (∀ t, 0 ≤ t → t < u → pcounts len sid tb b t → ∃ i, (lo ≤ i ∧ i < hi) ∧ rowIs f sid i b t)
theorem tOK.skip {len sid tb f : Int → Int} {b lo hi u : Int} (h : tOK len sid tb f b lo hi u) (hn : ¬ pcounts len sid tb b u) : tOK len sid tb f b lo hi (u + 1) := by
  refine ⟨fun i h1 h2 => ?_, fun t h1 h2 hc => ?_⟩
  · obtain ⟨t, a1, a2⟩ := h.1 i h1 h2
    exact ⟨t, by omega, a2⟩
  · by_cases e : t = u
    · subst e; exact absurd hc hn
    · exact h.2 t h1 (by omega) hc
theorem tOK.add {len sid tb f g : Int → Int} {b lo hi u : Int} (h : tOK len sid tb f b lo hi u) (hl : lo ≤ hi) (hu : 0 ≤ u) (hc : pcounts len sid tb b u) (hg : ∀ i, i < hi * 3 → g i = f i) (hr : rowIs g sid hi b u) : tOK len sid tb g b lo (hi + 1) (u + 1) := by
  have keep : ∀ i t, i < hi → rowIs f sid i b t → rowIs g sid i b t := fun i t hi' hq => ⟨by rw [hg _ (by omega)]; exact hq.1, by rw [hg _ (by omega)]; exact hq.2.1, by rw [hg _ (by omega)]; exact hq.2.2⟩
  refine ⟨fun i h1 h2 => ?_, fun t h1 h2 hc2 => ?_⟩
  · by_cases e : i = hi
    · subst e; exact ⟨u, by omega, hc, hr⟩
    · obtain ⟨t, a1, a2, a3⟩ := h.1 i h1 (by omega)
      exact ⟨t, by omega, a2, keep i t (by omega) a3⟩
  · by_cases e : t = u
    · subst e; exact ⟨hi, by omega, hr⟩
    · obtain ⟨i, a1, a2⟩ := h.2 t h1 (by omega) hc2
      exact ⟨i, by omega, keep i t (by omega) a2⟩
theorem tOK.same {len sid tb f g : Int → Int} {b lo hi u : Int} (h : tOK len sid tb f b lo hi u) (hg : ∀ i, i < hi * 3 → g i = f i) : tOK len sid tb g b lo hi u := by
  have keep : ∀ i t, i < hi → rowIs f sid i b t → rowIs g sid i b t := fun i t hi' hq => ⟨by rw [hg _ (by omega)]; exact hq.1, by rw [hg _ (by omega)]; exact hq.2.1, by rw [hg _ (by omega)]; exact hq.2.2⟩
  refine ⟨fun i h1 h2 => ?_, fun t h1 h2 hc2 => ?_⟩
  · obtain ⟨t, a1, a2, a3⟩ := h.1 i h1 h2
    exact ⟨t, a1, a2, keep i t h2 a3⟩
  · obtain ⟨i, a1, a2⟩ := h.2 t h1 h2 hc2
    exact ⟨i, a1, keep i t a1.2 a2⟩
/-- what tellTurns has told of box b, up to turn u -/
def ttI (S0 : jMem) (b lo hi u : Int) (S : jMem) : Prop := only 28 S0 S ∧ (∀ i, i < lo * 3 → S 28 i = S0 28 i) ∧ tOK (S0 2) (S0 3) (S0 4) (S 28) b lo hi u ∧ lo ≤ hi ∧ hi ≤ lo + u ∧ (0 ≤ u ∧ u ≤ 6)
theorem ttI.skip {S0 S : jMem} {b lo hi u : Int} (h : ttI S0 b lo hi u S) (hu : u < 6) (hn : ¬ pcounts (S0 2) (S0 3) (S0 4) b u) : ttI S0 b lo hi (u + 1) S := ⟨h.1, h.2.1, h.2.2.1.skip hn, h.2.2.2.1, by have := h.2.2.2.2.1; omega, by have := h.2.2.2.2.2; omega⟩
theorem ttI.add {S0 S : jMem} {b lo hi u : Int} (h : ttI S0 b lo hi u S) (hu : u < 6) (hc : pcounts (S0 2) (S0 3) (S0 4) b u) : ttI S0 b lo (hi + 1) (u + 1) (up2 (up2 (up2 S 28 (hi * 3 + 0) (pext (S0 3) b u 0)) 28 (hi * 3 + 1) (pext (S0 3) b u 1)) 28 (hi * 3 + 2) (pext (S0 3) b u 2)) := by
  obtain ⟨h1, h2, h3, h4, h5, h6⟩ := h
  have hg : ∀ i, i < hi * 3 → up2 (up2 (up2 S 28 (hi * 3 + 0) (pext (S0 3) b u 0)) 28 (hi * 3 + 1) (pext (S0 3) b u 1)) 28 (hi * 3 + 2) (pext (S0 3) b u 2) 28 i = S 28 i := fun i hi' => by rw [up2_a _ _ _ (by omega), up2_a _ _ _ (by omega), up2_a _ _ _ (by omega)]
  refine ⟨((h1.up _ _).up _ _).up _ _, fun i hi' => by rw [hg i (by omega)]; exact h2 i hi', h3.add h4 h6.1 hc hg ⟨rd_a (by omega) (rd_a (by omega) (rd_e rfl)), rd_a (by omega) (rd_e rfl), rd_e rfl⟩, by omega, by omega, by omega⟩
/-- the caches of the dual functions are right -/
def dOK (S : jMem) : Prop := (vOK S 0 ∧ vOK S 1 ∧ vOK S 2) ∧ (∀ b, 0 ≤ b → b ≤ S 1 4 → 0 ≤ S 29 b ∧ S 29 b ≤ b * 6) ∧ ∀ b, 0 ≤ b → b < S 1 4 → S 29 b ≤ S 29 (b + 1) ∧ tOK (S 2) (S 3) (S 4) (S 28) b (S 29 b) (S 29 (b + 1)) 6
/-- what prepare has told, boxes below b -/
def ppI (S0 : jMem) (b tt : Int) (S : jMem) : Prop := keeps [25, 27, 28, 29] S0 S ∧ (∀ j, S 25 j = if j = 8 then 1 else S0 25 j) ∧ (vOK S 0 ∧ vOK S 1 ∧ vOK S 2) ∧ (0 ≤ tt ∧ tt ≤ b * 6) ∧ (∀ c, 0 ≤ c → c < b → (0 ≤ S 29 c ∧ S 29 c ≤ c * 6) ∧ S 29 c ≤ (if c + 1 = b then tt else S 29 (c + 1)) ∧ tOK (S 2) (S 3) (S 4) (S 28) c (S 29 c) (if c + 1 = b then tt else S 29 (c + 1)) 6 ∧ (if c + 1 = b then tt else S 29 (c + 1)) ≤ tt)
theorem vOK_on {S0 S : jMem} {q : Nat} {a : Int} (h : vOK S0 a) (ho : only q S0 S) (h1 : q ≠ 2) (h2 : q ≠ 27) : vOK S a := fun n x a1 a2 a3 a4 => by
  rw [ho 2 (Ne.symm h1)] at a2 a4 ⊢; rw [ho 27 (Ne.symm h2)]; exact h n x a1 a2 a3 a4
theorem ppI.step {S0 S S2 : jMem} {b tt v : Int} (h : ppI S0 b tt S) (hb : 0 ≤ b) (h2 : ttI (up2 S 29 b tt) b tt v 6 S2) : ppI S0 (b + 1) v S2 := by
  obtain ⟨k1, k2, k3, k4, k5⟩ := h
  obtain ⟨t1, t2, t3, t4, t5, -⟩ := h2
  have e2 : S2 2 = S 2 := (t1 2 (by decide)).trans (up2_k _ _ _ (by decide))
  have e3 : S2 3 = S 3 := (t1 3 (by decide)).trans (up2_k _ _ _ (by decide))
  have e4 : S2 4 = S 4 := (t1 4 (by decide)).trans (up2_k _ _ _ (by decide))
  have e29 : S2 29 = up2 S 29 b tt 29 := t1 29 (by decide)
  have v1 : ∀ a, vOK S a → vOK S2 a := fun a hv => vOK_on (vOK_on hv (S := up2 S 29 b tt) (q := 29) (only.rf.up _ _) (by decide) (by decide)) t1 (by decide) (by decide)
  refine ⟨(k1.up (by decide) b tt).on (by decide) t1, fun j => ?_, ⟨v1 0 k3.1, v1 1 k3.2.1, v1 2 k3.2.2⟩, by omega, fun c c1 c2 => ?_⟩
  · rw [t1 25 (by decide), up2_k _ _ _ (by decide)]; exact k2 j
  · rw [e2, e3, e4]
    by_cases hc : c = b
    · subst hc
      rw [if_pos rfl, e29, up2_eq]
      refine ⟨by omega, by omega, ?_, by omega⟩
      rw [up2_k S _ _ (by decide), up2_k S _ _ (by decide), up2_k S _ _ (by decide)] at t3
      exact t3
    · obtain ⟨q1, q2, q3, q4⟩ := k5 c c1 (by omega)
      rw [if_neg (by omega), e29, up2_a _ _ _ hc]
      have hx : up2 S 29 b tt 29 (c + 1) = if c + 1 = b then tt else S 29 (c + 1) := by
        by_cases hd : c + 1 = b
        · rw [if_pos hd, hd, up2_eq]
        · rw [if_neg hd, up2_a _ _ _ hd]
      rw [hx]
      refine ⟨q1, q2, q3.same (fun i hi => ?_), by omega⟩
      rw [t2 i (by omega), up2_k _ _ _ (by decide)]
theorem ppI.done {S0 S : jMem} {tt : Int} (h : ppI S0 (S0 1 4) tt S) (hn : 0 ≤ S0 1 4) : dOK (up2 S 29 (S0 1 4) tt) := by
  obtain ⟨k1, k2, k3, k4, k5⟩ := h
  have e1 : up2 S 29 (S0 1 4) tt 1 4 = S0 1 4 := by rw [up2_k _ _ _ (by decide), k1 1 (by decide)]
  have v1 : ∀ a, vOK S a → vOK (up2 S 29 (S0 1 4) tt) a := fun a hv => vOK_on hv (q := 29) (only.rf.up _ _) (by decide) (by decide)
  refine ⟨⟨v1 0 k3.1, v1 1 k3.2.1, v1 2 k3.2.2⟩, fun b b1 b2 => ?_, fun b b1 b2 => ?_⟩
  · rw [e1] at b2
    by_cases hb : b = S0 1 4
    · subst hb; rw [up2_eq]; omega
    · rw [up2_a _ _ _ hb]; exact (k5 b b1 (by omega)).1
  · rw [e1] at b2
    obtain ⟨q1, q2, q3, q4⟩ := k5 b b1 b2
    have hx : up2 S 29 (S0 1 4) tt 29 (b + 1) = if b + 1 = S0 1 4 then tt else S 29 (b + 1) := by
      by_cases hd : b + 1 = S0 1 4
      · rw [if_pos hd, hd, up2_eq]
      · rw [if_neg hd, up2_a _ _ _ hd]
    rw [hx, up2_a _ _ _ (by omega : b ≠ S0 1 4), up2_k S _ _ (by decide), up2_k S _ _ (by decide), up2_k S _ _ (by decide), up2_k S _ _ (by decide)]
    exact ⟨q2, q3⟩
end
section
theorem l_tt {E : jEnv} {G : jG} (hG : cG G) (C : jX E G cX1_tellTurns 6 RX1 3 69) (S0 : jMem) (b lo : Int) (hk : cOK S0) (hb : 0 ≤ b ∧ b < 8) (hlo : 0 ≤ lo ∧ lo ≤ 42) (R : jR E G (some .int) (jPi (fun v S' => ttI S0 b lo v 6 S'))) : ∀ (mm : Nat) (u hi : Int) (S : jMem), mm = (6 - u).toNat → ttI S0 b lo hi u S → J E G 5 [(0, .ref (jad G 25)), (1, .int (iI (b))), (3, .int (iI (hi))), (4, .int (iI (u)))] [] S := by
  intro mm
  induction mm using Nat.strongRecOn with | ind mm ih => ?_
  intro u hi S hm hj
  have hq := hj.2.2.2
  refine J_iload C 3 dX1_tellTurns_5 rfl ?_
  refine J_bipush C dX1_tellTurns_7 (by decide) ?_
  refine J_icmp_ge C 72 dX1_tellTurns_9 (by decide) (by omega) (by omega) (fun h1 => ?_) (fun h1 => ?_)
  · refine J_iload_n C 2 dX1_tellTurns_72 rfl ?_
    have e : u = 6 := by omega
    rw [e] at hj
    exact J_iret R C dX1_tellTurns_73 (jPi.mk hj)
  · refine J_aload_n C 0 dX1_tellTurns_12 rfl ?_
    refine g_X1_30 hG C dX1_tellTurns_13 ?_
    refine J_iload_n C 1 dX1_tellTurns_16 rfl ?_
    refine J_iload C 3 dX1_tellTurns_17 rfl ?_
    refine J_callV (k := 1) (rest := []) C (c_counts hG S (b) (u) (hj.1.ok (by decide) hk) (by omega) (by omega)) kc_X4_counts kl_X1_66 (by rw [hG.2]; decide) (by rw [hG.1]; rfl) rfl dX1_tellTurns_19 rfl rfl (by decide) (Nat.le_of_ble_eq_true rfl) (J_ki (fun v2 S2 h2 => ?_))
    obtain ⟨rfl, rfl⟩ := h2
    refine J_top (b := bb (pcounts (S0 2) (S0 3) (S0 4) (b) (u))) (by rw [hj.1 2 (by decide), hj.1 3 (by decide), hj.1 4 (by decide)]) ?_
    refine J_if_eq_b C 66 dX1_tellTurns_22 (by decide) (fun h3 => ?_) (fun h3 => ?_)
    · refine J_iinc (lv' := [(4, .int (iI (u + 1))), (0, .ref (jad G 25)), (1, .int (iI (b))), (3, .int (iI (hi)))]) C 3 dX1_tellTurns_66 rfl (by decide) rfl ?_
      refine J_goto C 5 dX1_tellTurns_69 (by decide) ?_
      refine J_lv [1, 2, 3, 0] rfl ?_
      exact ih _ (by omega) (u + 1) hi S rfl (hj.skip (by omega) (by assumption))
    · refine J_iconst C dX1_tellTurns_25 ?_
      refine J_istore (lv' := [(5, .int (iI (0))), (0, .ref (jad G 25)), (1, .int (iI (b))), (3, .int (iI (hi))), (4, .int (iI (u)))]) C dX1_tellTurns_26 (by decide) rfl ?_
      refine J_iload C 0 dX1_tellTurns_28 rfl ?_
      refine J_iconst C dX1_tellTurns_30 ?_
      refine J_icmp_ge C 63 dX1_tellTurns_31 (by decide) (by omega) (by omega) (fun h => absurd h (by omega)) (fun _ => ?_)
      refine J_aload_n C 1 dX1_tellTurns_34 rfl ?_
      refine g_X1_18 hG C dX1_tellTurns_35 ?_
      refine J_iload_n C 3 dX1_tellTurns_38 rfl ?_
      refine J_iconst C dX1_tellTurns_39 ?_
      refine J_imul C dX1_tellTurns_40 ?_
      refine J_iload C 0 dX1_tellTurns_41 rfl ?_
      refine J_iadd C dX1_tellTurns_43 ?_
      refine J_aload_n C 1 dX1_tellTurns_44 rfl ?_
      refine g_X1_30 hG C dX1_tellTurns_45 ?_
      refine J_iload_n C 2 dX1_tellTurns_48 rfl ?_
      refine J_iload C 4 dX1_tellTurns_49 rfl ?_
      refine J_iload C 0 dX1_tellTurns_51 rfl ?_
      refine J_callV (k := 1) (rest := [.int (iI (((hi) * (3)) + (0))), .ref (jad G 28)]) C (c_extent hG S (b) (u) (0) (by omega) (by omega) (by omega)) kc_X4_extent kl_X1_70 (by rw [hG.2]; decide) (by rw [hG.1]; rfl) rfl dX1_tellTurns_53 rfl rfl (by decide) (Nat.le_of_ble_eq_true rfl) (J_ki (fun v5 S5 h5 => ?_))
      obtain ⟨rfl, rfl⟩ := h5
      refine J_top (b := pext (S0 3) (b) (u) (0)) (by rw [hj.1 3 (by decide)]) ?_
      refine cast hG C 28 144 (by decide) dX1_tellTurns_56 (by omega) (by omega) ?_
      refine J_iinc (lv' := [(5, .int (iI (1))), (0, .ref (jad G 25)), (1, .int (iI (b))), (3, .int (iI (hi))), (4, .int (iI (u)))]) C 0 dX1_tellTurns_57 rfl (by decide) rfl ?_
      refine J_goto C 28 dX1_tellTurns_60 (by decide) ?_
      refine J_iload C 0 dX1_tellTurns_28 rfl ?_
      refine J_iconst C dX1_tellTurns_30 ?_
      refine J_icmp_ge C 63 dX1_tellTurns_31 (by decide) (by omega) (by omega) (fun h => absurd h (by omega)) (fun _ => ?_)
      refine J_aload_n C 1 dX1_tellTurns_34 rfl ?_
      refine g_X1_18 hG C dX1_tellTurns_35 ?_
      refine J_iload_n C 3 dX1_tellTurns_38 rfl ?_
      refine J_iconst C dX1_tellTurns_39 ?_
      refine J_imul C dX1_tellTurns_40 ?_
      refine J_iload C 0 dX1_tellTurns_41 rfl ?_
      refine J_iadd C dX1_tellTurns_43 ?_
      refine J_aload_n C 1 dX1_tellTurns_44 rfl ?_
      refine g_X1_30 hG C dX1_tellTurns_45 ?_
      refine J_iload_n C 2 dX1_tellTurns_48 rfl ?_
      refine J_iload C 4 dX1_tellTurns_49 rfl ?_
      refine J_iload C 0 dX1_tellTurns_51 rfl ?_
      refine J_callV (k := 1) (rest := [.int (iI (((hi) * (3)) + (1))), .ref (jad G 28)]) C (c_extent hG (up2 S 28 (((hi) * (3)) + (0)) (pext (S0 3) (b) (u) (0))) (b) (u) (1) (by omega) (by omega) (by omega)) kc_X4_extent kl_X1_70 (by rw [hG.2]; decide) (by rw [hG.1]; rfl) rfl dX1_tellTurns_53 rfl rfl (by decide) (Nat.le_of_ble_eq_true rfl) (J_ki (fun v7 S7 h7 => ?_))
      obtain ⟨rfl, rfl⟩ := h7
      refine J_top (b := pext (S0 3) (b) (u) (1)) (by rw [up2_k _ _ _ (by decide), hj.1 3 (by decide)]) ?_
      refine cast hG C 28 144 (by decide) dX1_tellTurns_56 (by omega) (by omega) ?_
      refine J_iinc (lv' := [(5, .int (iI (2))), (0, .ref (jad G 25)), (1, .int (iI (b))), (3, .int (iI (hi))), (4, .int (iI (u)))]) C 0 dX1_tellTurns_57 rfl (by decide) rfl ?_
      refine J_goto C 28 dX1_tellTurns_60 (by decide) ?_
      refine J_iload C 0 dX1_tellTurns_28 rfl ?_
      refine J_iconst C dX1_tellTurns_30 ?_
      refine J_icmp_ge C 63 dX1_tellTurns_31 (by decide) (by omega) (by omega) (fun h => absurd h (by omega)) (fun _ => ?_)
      refine J_aload_n C 1 dX1_tellTurns_34 rfl ?_
      refine g_X1_18 hG C dX1_tellTurns_35 ?_
      refine J_iload_n C 3 dX1_tellTurns_38 rfl ?_
      refine J_iconst C dX1_tellTurns_39 ?_
      refine J_imul C dX1_tellTurns_40 ?_
      refine J_iload C 0 dX1_tellTurns_41 rfl ?_
      refine J_iadd C dX1_tellTurns_43 ?_
      refine J_aload_n C 1 dX1_tellTurns_44 rfl ?_
      refine g_X1_30 hG C dX1_tellTurns_45 ?_
      refine J_iload_n C 2 dX1_tellTurns_48 rfl ?_
      refine J_iload C 4 dX1_tellTurns_49 rfl ?_
      refine J_iload C 0 dX1_tellTurns_51 rfl ?_
      refine J_callV (k := 1) (rest := [.int (iI (((hi) * (3)) + (2))), .ref (jad G 28)]) C (c_extent hG (up2 (up2 S 28 (((hi) * (3)) + (0)) (pext (S0 3) (b) (u) (0))) 28 (((hi) * (3)) + (1)) (pext (S0 3) (b) (u) (1))) (b) (u) (2) (by omega) (by omega) (by omega)) kc_X4_extent kl_X1_70 (by rw [hG.2]; decide) (by rw [hG.1]; rfl) rfl dX1_tellTurns_53 rfl rfl (by decide) (Nat.le_of_ble_eq_true rfl) (J_ki (fun v9 S9 h9 => ?_))
      obtain ⟨rfl, rfl⟩ := h9
      refine J_top (b := pext (S0 3) (b) (u) (2)) (by rw [up2_k _ _ _ (by decide), up2_k _ _ _ (by decide), hj.1 3 (by decide)]) ?_
      refine cast hG C 28 144 (by decide) dX1_tellTurns_56 (by omega) (by omega) ?_
      refine J_iinc (lv' := [(5, .int (iI (3))), (0, .ref (jad G 25)), (1, .int (iI (b))), (3, .int (iI (hi))), (4, .int (iI (u)))]) C 0 dX1_tellTurns_57 rfl (by decide) rfl ?_
      refine J_goto C 28 dX1_tellTurns_60 (by decide) ?_
      refine J_iload C 0 dX1_tellTurns_28 rfl ?_
      refine J_iconst C dX1_tellTurns_30 ?_
      refine J_icmp_ge C 63 dX1_tellTurns_31 (by decide) (by omega) (by omega) (fun _ => ?_) (fun h => absurd h (by omega))
      refine J_iinc (lv' := [(3, .int (iI (hi + 1))), (5, .int (iI (3))), (0, .ref (jad G 25)), (1, .int (iI (b))), (4, .int (iI (u)))]) C 3 dX1_tellTurns_63 rfl (by decide) rfl ?_
      refine J_iinc (lv' := [(4, .int (iI (u + 1))), (3, .int (iI (hi + 1))), (5, .int (iI (3))), (0, .ref (jad G 25)), (1, .int (iI (b)))]) C 4 dX1_tellTurns_66 rfl (by decide) rfl ?_
      refine J_goto C 5 dX1_tellTurns_69 (by decide) ?_
      refine J_lv [3, 4, 1, 0] rfl ?_
      exact ih _ (by omega) (u + 1) (hi + 1) _ rfl (hj.add (by omega) (by assumption))
theorem c_tellTurns {G : jG} (hG : cG G) (S0 : jMem) (b lo : Int) (hk : cOK S0) (hb : 0 ≤ b ∧ b < 8) (hlo : 0 ≤ lo ∧ lo ≤ 42) : jM G yX1_tellTurns cX1_tellTurns 6 (some .int) 3 69 [.ref (jad G 25), .int (iI (b)), .int (iI (lo))] S0 (jPi (fun v S' => ttI S0 b lo v 6 S')) := by
  refine jM.of (by decide) (Nat.le_of_ble_eq_true rfl) (fun E C R => ?_)
  show J E G 0 [(0, .ref (jad G 25)), (1, .int (iI (b))), (2, .int (iI (lo)))] [] _
  refine J_iload_n C 2 dX1_tellTurns_0 rfl ?_
  refine J_istore_n (lv' := [(3, .int (iI (lo))), (0, .ref (jad G 25)), (1, .int (iI (b))), (2, .int (iI (lo)))]) C dX1_tellTurns_1 (by decide) rfl ?_
  refine J_iconst C dX1_tellTurns_2 ?_
  refine J_istore (lv' := [(4, .int (iI (0))), (3, .int (iI (lo))), (0, .ref (jad G 25)), (1, .int (iI (b))), (2, .int (iI (lo)))]) C dX1_tellTurns_3 (by decide) rfl ?_
  refine J_lv [2, 3, 1, 0] rfl ?_
  exact l_tt hG C S0 b lo hk hb hlo R _ 0 lo S0 rfl ⟨only.rf, fun _ _ => rfl, ⟨fun i h1 h2 => by omega, fun t h1 h2 => by omega⟩, by omega, by omega, by omega⟩
theorem l_pp {E : jEnv} {G : jG} (hG : cG G) (C : jX E G cX1_prepare 3 RX1 4 94) (S0 : jMem) (hk : cOK S0) (R : jR E G none (jPv (fun S' => dOK S' ∧ keeps [25, 27, 28, 29] S0 S' ∧ ∀ j, S' 25 j = if j = 8 then 1 else S0 25 j))) : ∀ (mm : Nat) (b tt : Int) (S : jMem), mm = (S0 1 4 - b).toNat → (ppI S0 b tt S ∧ (0 ≤ b ∧ b ≤ S0 1 4)) → J E G 35 [(0, .ref (jad G 25)), (1, .int (iI (tt))), (2, .int (iI (b)))] [] S := by
  intro mm
  induction mm using Nat.strongRecOn with | ind mm ih => ?_
  intro b tt S hm hj
  obtain ⟨hj, hb⟩ := hj
  have hn := hk.1
  have e1 : S 1 4 = S0 1 4 := by rw [hj.1 1 (by decide)]
  have hq := hj.2.2.2.1
  have hk2 : cOK (up2 S 29 b tt) := (hj.1.up (by decide) b tt).ok (by decide) hk
  refine J_iload_n C 2 dX1_prepare_35 rfl ?_
  refine J_aload_n C 0 dX1_prepare_36 rfl ?_
  refine g_X1_30 hG C dX1_prepare_37 ?_
  refine g_X1_54 hG C dX1_prepare_40 ?_
  refine J_icmp_ge C 66 dX1_prepare_43 (by decide) (by omega) (by omega) (fun h1 => ?_) (fun h1 => ?_)
  · refine J_aload_n C 0 dX1_prepare_66 rfl ?_
    refine g_X1_21 hG C dX1_prepare_67 ?_
    refine J_aload_n C 0 dX1_prepare_70 rfl ?_
    refine g_X1_30 hG C dX1_prepare_71 ?_
    refine g_X1_54 hG C dX1_prepare_74 ?_
    refine J_iload_n C 1 dX1_prepare_77 rfl ?_
    refine cast hG C 29 9 (by decide) dX1_prepare_78 (by omega) (by omega) ?_
    have e : b = S0 1 4 := by omega
    rw [e] at hj
    refine J_vret R C dX1_prepare_79 (jPv.mk ?_)
    rw [e1]
    exact ⟨hj.done hn.1, hj.1.up (by decide) _ _, fun j => by rw [up2_k _ _ _ (by decide)]; exact hj.2.1 j⟩
  · refine J_aload_n C 0 dX1_prepare_46 rfl ?_
    refine g_X1_21 hG C dX1_prepare_47 ?_
    refine J_iload_n C 2 dX1_prepare_50 rfl ?_
    refine J_iload_n C 1 dX1_prepare_51 rfl ?_
    refine cast hG C 29 9 (by decide) dX1_prepare_52 (by omega) (by omega) ?_
    refine J_aload_n C 0 dX1_prepare_53 rfl ?_
    refine J_iload_n C 2 dX1_prepare_54 rfl ?_
    refine J_iload_n C 1 dX1_prepare_55 rfl ?_
    refine J_callV (k := 25) (rest := []) C (c_tellTurns hG (up2 S 29 (b) (tt)) (b) (tt) hk2 (by omega) (by omega)) kc_X1_tellTurns kl_X1_58 (by rw [hG.2]; decide) (by rw [hG.1]; rfl) rfl dX1_prepare_56 rfl rfl (by decide) (Nat.le_of_ble_eq_true rfl) (J_ki (fun v2 S2 h2 => ?_))
    refine J_istore_n (lv' := [(1, .int (iI (v2))), (0, .ref (jad G 25)), (2, .int (iI (b)))]) C dX1_prepare_59 (by decide) rfl ?_
    refine J_iinc (lv' := [(2, .int (iI (b + 1))), (1, .int (iI (v2))), (0, .ref (jad G 25))]) C 2 dX1_prepare_60 rfl (by decide) rfl ?_
    refine J_goto C 35 dX1_prepare_63 (by decide) ?_
    refine J_lv [2, 1, 0] rfl ?_
    exact ih _ (by omega) (b + 1) _ _ rfl ⟨hj.step hb.1 (by assumption), by omega⟩
theorem vOK_far {S0 S : jMem} {a c : Int} (h : vOK S0 c) (ho : only 27 S0 S) (hL : 1 ≤ S0 2 c ∧ S0 2 c ≤ 20) (hf : ∀ i, (i < a * 441 ∨ (a + 1) * 441 ≤ i) → S 27 i = S0 27 i) (hc : c < a) : vOK S c := fun n x a1 a2 a3 a4 => by
  rw [ho 2 (by decide)] at a2 a4 ⊢
  rw [hf _ (by omega)]
  exact h n x a1 a2 a3 a4
theorem c_prepare {G : jG} (hG : cG G) (S0 : jMem) (hk : cOK S0) (hp : S0 25 8 = 0 ∨ (S0 25 8 = 1 ∧ dOK S0)) : jM G yX1_prepare cX1_prepare 3 none 4 94 [.ref (jad G 25)] S0 (jPv (fun S' => dOK S' ∧ keeps [25, 27, 28, 29] S0 S' ∧ ∀ j, S' 25 j = if j = 8 then 1 else S0 25 j)) := by
  refine jM.of (by decide) (Nat.le_of_ble_eq_true rfl) (fun E C R => ?_)
  show J E G 0 [(0, .ref (jad G 25))] [] _
  have hn := hk.1
  have hk2 : cOK (up2 S0 25 8 1) := cOK.eq (S0 := S0) (up2_k _ _ _ (by decide)) (up2_k _ _ _ (by decide)) (up2_k _ _ _ (by decide)) (up2_k _ _ _ (by decide)) (up2_k _ _ _ (by decide)) hk
  refine J_aload_n C 0 dX1_prepare_0 rfl ?_
  refine g_X1_34 hG C dX1_prepare_1 ?_
  refine J_if_eq C 8 dX1_prepare_4 (by decide) (by omega) (fun h1 => ?_) (fun h1 => ?_)
  · refine J_aload_n C 0 dX1_prepare_8 rfl ?_
    refine J_iconst C dX1_prepare_9 ?_
    refine p_X1_34 hG C (by first | exact Or.inl rfl | exact Or.inr rfl | omega) dX1_prepare_10 ?_
    refine J_iconst C dX1_prepare_13 ?_
    refine J_istore_n (lv' := [(1, .int (iI (0))), (0, .ref (jad G 25))]) C dX1_prepare_14 (by decide) rfl ?_
    refine J_iload_n C 0 dX1_prepare_15 rfl ?_
    refine J_iconst C dX1_prepare_16 ?_
    refine J_icmp_ge C 31 dX1_prepare_17 (by decide) (by omega) (by omega) (fun h => absurd h (by omega)) (fun _ => ?_)
    refine J_aload_n C 1 dX1_prepare_20 rfl ?_
    refine J_iload_n C 0 dX1_prepare_21 rfl ?_
    refine J_callV (k := 25) (rest := []) C (c_tellValues hG (up2 S0 25 (8) (1)) (0) hk2 (by omega)) kc_X1_tellValues kl_X1_50 (by rw [hG.2]; decide) (by rw [hG.1]; rfl) rfl dX1_prepare_22 rfl rfl (by decide) (Nat.le_of_ble_eq_true rfl) (J_kv (fun S3 h3 => ?_))
    obtain ⟨o0, v0, f0⟩ := h3
    have hk2 := o0.ok (by decide) hk2
    refine J_iinc (lv' := [(1, .int (iI (1))), (0, .ref (jad G 25))]) C 0 dX1_prepare_25 rfl (by decide) rfl ?_
    refine J_goto C 15 dX1_prepare_28 (by decide) ?_
    refine J_iload_n C 0 dX1_prepare_15 rfl ?_
    refine J_iconst C dX1_prepare_16 ?_
    refine J_icmp_ge C 31 dX1_prepare_17 (by decide) (by omega) (by omega) (fun h => absurd h (by omega)) (fun _ => ?_)
    refine J_aload_n C 1 dX1_prepare_20 rfl ?_
    refine J_iload_n C 0 dX1_prepare_21 rfl ?_
    refine J_callV (k := 25) (rest := []) C (c_tellValues hG S3 (1) hk2 (by omega)) kc_X1_tellValues kl_X1_50 (by rw [hG.2]; decide) (by rw [hG.1]; rfl) rfl dX1_prepare_22 rfl rfl (by decide) (Nat.le_of_ble_eq_true rfl) (J_kv (fun S5 h5 => ?_))
    obtain ⟨o1, v1, f1⟩ := h5
    have hk2 := o1.ok (by decide) hk2
    refine J_iinc (lv' := [(1, .int (iI (2))), (0, .ref (jad G 25))]) C 0 dX1_prepare_25 rfl (by decide) rfl ?_
    refine J_goto C 15 dX1_prepare_28 (by decide) ?_
    refine J_iload_n C 0 dX1_prepare_15 rfl ?_
    refine J_iconst C dX1_prepare_16 ?_
    refine J_icmp_ge C 31 dX1_prepare_17 (by decide) (by omega) (by omega) (fun h => absurd h (by omega)) (fun _ => ?_)
    refine J_aload_n C 1 dX1_prepare_20 rfl ?_
    refine J_iload_n C 0 dX1_prepare_21 rfl ?_
    refine J_callV (k := 25) (rest := []) C (c_tellValues hG S5 (2) hk2 (by omega)) kc_X1_tellValues kl_X1_50 (by rw [hG.2]; decide) (by rw [hG.1]; rfl) rfl dX1_prepare_22 rfl rfl (by decide) (Nat.le_of_ble_eq_true rfl) (J_kv (fun S7 h7 => ?_))
    obtain ⟨o2, v2, f2⟩ := h7
    have hk2 := o2.ok (by decide) hk2
    refine J_iinc (lv' := [(1, .int (iI (3))), (0, .ref (jad G 25))]) C 0 dX1_prepare_25 rfl (by decide) rfl ?_
    refine J_goto C 15 dX1_prepare_28 (by decide) ?_
    refine J_iload_n C 0 dX1_prepare_15 rfl ?_
    refine J_iconst C dX1_prepare_16 ?_
    refine J_icmp_ge C 31 dX1_prepare_17 (by decide) (by omega) (by omega) (fun _ => ?_) (fun h => absurd h (by omega))
    refine J_iconst C dX1_prepare_31 ?_
    refine J_istore_n (lv' := [(1, .int (iI (0))), (0, .ref (jad G 25))]) C dX1_prepare_32 (by decide) rfl ?_
    refine J_iconst C dX1_prepare_33 ?_
    refine J_istore_n (lv' := [(2, .int (iI (0))), (1, .int (iI (0))), (0, .ref (jad G 25))]) C dX1_prepare_34 (by decide) rfl ?_
    refine J_lv [2, 1, 0] rfl ?_
    have L0 := hk.2.1 0 (by omega) (by omega)
    have L1 := hk.2.1 1 (by omega) (by omega)
    have kp : keeps [25, 27, 28, 29] S0 S7 := (((keeps.rf.up (by decide) 8 1).on (by decide) o0).on (by decide) o1).on (by decide) o2
    refine l_pp hG C S0 hk R _ 0 0 _ rfl ⟨⟨kp, fun j => ?_, ⟨?_, ?_, v2⟩, by omega, fun c h1 h2 => by omega⟩, by omega⟩
    · rw [o2 25 (by decide), o1 25 (by decide), o0 25 (by decide)]; unfold up2; by_cases hj : j = 8 <;> simp [hj]
    · refine vOK_far (vOK_far v0 o1 ?_ f1 (by omega)) o2 ?_ f2 (by omega)
      · rw [o0 2 (by decide), up2_k _ _ _ (by decide)]; exact L0
      · rw [o1 2 (by decide), o0 2 (by decide), up2_k _ _ _ (by decide)]; exact L0
    · refine vOK_far v1 o2 ?_ f2 (by omega)
      rw [o1 2 (by decide), o0 2 (by decide), up2_k _ _ _ (by decide)]; exact L1
  · rcases hp with hp | hp
    · omega
    refine J_vret R C dX1_prepare_7 (jPv.mk ⟨hp.2, keeps.rf, fun j => ?_⟩)
    by_cases hj : j = 8
    · subst hj; rw [if_pos rfl]; omega
    · rw [if_neg hj]
end
section
theorem mul_in {x y A B : Int} (hx : 0 ≤ x ∧ x ≤ A) (hy : 0 ≤ y ∧ y ≤ B) : 0 ≤ x * y ∧ x * y ≤ A * B := ⟨Int.mul_nonneg hx.1 hy.1, Int.mul_le_mul hx.2 hy.2 hy.1 (Int.le_trans hx.1 hx.2)⟩
/-- of three dual functions: what a box needs in a turn, what the bin has -/
def pprod (len sid : Int → Int) (n0 n1 n2 b t : Int) : Int := pworth (len 0) n0 (pext sid b t 0) * pworth (len 1) n1 (pext sid b t 1) * pworth (len 2) n2 (pext sid b t 2)
def phas3 (len : Int → Int) (n0 n1 n2 : Int) : Int := pworth (len 0) n0 (len 0) * pworth (len 1) n1 (len 1) * pworth (len 2) n2 (len 2)
abbrev pturn (len sid tb : Int → Int) (b t : Int) : Prop := (0 ≤ t ∧ t < 6) ∧ phas tb b t ∧ pshort len sid b t
def isLeast (len sid tb : Int → Int) (n0 n1 n2 b m : Int) : Prop := m ≤ phas3 len n0 n1 n2 + 1 ∧ (∀ t, pturn len sid tb b t → m ≤ pprod len sid n0 n1 n2 b t) ∧ (m = phas3 len n0 n1 n2 + 1 ∨ ∃ t, pturn len sid tb b t ∧ m = pprod len sid n0 n1 n2 b t)
theorem isLeast.uniq {len sid tb : Int → Int} {n0 n1 n2 b m m' : Int} (h : isLeast len sid tb n0 n1 n2 b m) (h' : isLeast len sid tb n0 n1 n2 b m') : m = m' := by
  obtain ⟨a1, a2, a3⟩ := h
  obtain ⟨b1, b2, b3⟩ := h'
  have h1 : m ≤ m' := by
    rcases b3 with e | ⟨t, ht, e⟩
    · omega
    · rw [e]; exact a2 t ht
  have h2 : m' ≤ m := by
    rcases a3 with e | ⟨t, ht, e⟩
    · omega
    · rw [e]; exact b2 t ht
  omega
noncomputable def pleast (len sid tb : Int → Int) (n0 n1 n2 b : Int) : Int := @dite Int (∃ m, isLeast len sid tb n0 n1 n2 b m) (Classical.propDecidable _) (fun h => Classical.choose h) (fun _ => 0)
theorem pleast_eq {len sid tb : Int → Int} {n0 n1 n2 b m : Int} (h : isLeast len sid tb n0 n1 n2 b m) : pleast len sid tb n0 n1 n2 b = m := by
  have hx : ∃ m, isLeast len sid tb n0 n1 n2 b m := ⟨m, h⟩
  unfold pleast
  rw [dif_pos hx]
  exact (Classical.choose_spec hx).uniq h
noncomputable def pneed (n : Int) (len sid tb : Int → Int) (n0 n1 n2 m : Int) : Int := isum (fun b => bb (zbit m b) * pleast len sid tb n0 n1 n2 b) 0 (n - 0).toNat
/-- a turn that a box has and that fits: one that counts has the same extents -/
theorem pcounts_of {len sid tb : Int → Int} {b : Int} : ∀ (k : Nat) (t : Int), t.toNat = k → pturn len sid tb b t → ∃ u, (0 ≤ u ∧ u ≤ t) ∧ pcounts len sid tb b u ∧ psame sid b u t := by
  intro k
  induction k using Nat.strongRecOn with | ind k ih => ?_
  intro t hk ht
  by_cases h : ∃ u, 0 ≤ u ∧ u < t ∧ phas tb b u ∧ psame sid b u t
  · obtain ⟨u, u1, u2, u3, u4⟩ := h
    obtain ⟨w, w1, w2, w3⟩ := ih u.toNat (by omega) u rfl ⟨by omega, u3, by have := ht.2.2; omega⟩
    exact ⟨w, by omega, w2, by omega⟩
  · exact ⟨t, by omega, ⟨ht.2.1, ht.2.2, fun u u1 u2 hq => h ⟨u, u1, u2, hq.1, hq.2⟩⟩, rfl, rfl, rfl⟩
/-- each row of the cache is of a box and a turn that counts -/
theorem rows_in {S : jMem} (h : dOK S) : ∀ (k : Nat) (n : Int), n.toNat = k → 0 ≤ n → n ≤ S 1 4 → ∀ i, 0 ≤ i → i < S 29 n → ∃ b t, (0 ≤ b ∧ b < n) ∧ (0 ≤ t ∧ t < 6) ∧ pcounts (S 2) (S 3) (S 4) b t ∧ rowIs (S 28) (S 3) i b t
  | 0, n, hk, h0, h1, i, i0, i1 => by
    have := (h.2.1 n h0 h1).2
    omega
  | k + 1, n, hk, h0, h1, i, i0, i1 => by
    by_cases c : i < S 29 (n - 1)
    · obtain ⟨b, t, a1, a2⟩ := rows_in h k (n - 1) (by omega) (by omega) (by omega) i i0 c
      exact ⟨b, t, by omega, a2⟩
    · have q := h.2.2 (n - 1) (by omega) (by omega)
      rw [show n - 1 + 1 = n by omega] at q
      obtain ⟨t, a1, a2, a3⟩ := q.2.1 i (by omega) i1
      exact ⟨n - 1, t, by omega, a1, a2, a3⟩
theorem row_len {S : jMem} (hk : cOK S) (h : dOK S) {i : Int} (h0 : 0 ≤ i) (h1 : i < S 29 (S 1 4)) : (0 ≤ S 28 (i * 3 + 0) ∧ S 28 (i * 3 + 0) ≤ S 2 0) ∧ (0 ≤ S 28 (i * 3 + 1) ∧ S 28 (i * 3 + 1) ≤ S 2 1) ∧ (0 ≤ S 28 (i * 3 + 2) ∧ S 28 (i * 3 + 2) ≤ S 2 2) := by
  obtain ⟨b, t, b1, t1, hc, r0, r1, r2⟩ := rows_in h _ (S 1 4) rfl hk.1.1 (Int.le_refl _) i h0 h1
  have hn := hk.1
  have e0 := pext_in hk (b := b) (t := t) (a := 0) (by omega) (by omega)
  have e1 := pext_in hk (b := b) (t := t) (a := 1) (by omega) (by omega)
  have e2 := pext_in hk (b := b) (t := t) (a := 2) (by omega) (by omega)
  have hs := hc.2.1
  rw [r0, r1, r2]
  omega
theorem first_in {S : jMem} (hk : cOK S) (h : dOK S) {b : Int} (h0 : 0 ≤ b) (h1 : b ≤ S 1 4) : 0 ≤ S 29 b ∧ S 29 b ≤ 48 := by
  have := h.2.1 b h0 h1
  have := hk.1
  omega
theorem first_le {S : jMem} (h : dOK S) : ∀ (k : Nat) (b c : Int), (c - b).toNat = k → 0 ≤ b → b ≤ c → c ≤ S 1 4 → S 29 b ≤ S 29 c
  | 0, b, c, hk, h0, h1, h2 => by rw [show b = c by omega]; exact Int.le_refl _
  | k + 1, b, c, hk, h0, h1, h2 => by
    have q := first_le h k (b + 1) c (by omega) (by omega) (by omega) h2
    have := (h.2.2 b h0 (by omega)).1
    omega
theorem v0 {S : jMem} (h : vOK S 0) {n x : Int} (h1 : 0 ≤ n ∧ n ≤ S 2 0 / 2 * 2) (h2 : 0 ≤ x ∧ x ≤ S 2 0) : S 27 (n * 21 + x) = pworth (S 2 0) n x := by
  have := h n x h1.1 h1.2 h2.1 h2.2
  rwa [show ((0 : Int) * 21 + n) * 21 + x = n * 21 + x by omega] at this
theorem v1 {S : jMem} (h : vOK S 1) {n x : Int} (h1 : 0 ≤ n ∧ n ≤ S 2 1 / 2 * 2) (h2 : 0 ≤ x ∧ x ≤ S 2 1) : S 27 ((21 + n) * 21 + x) = pworth (S 2 1) n x := by
  have := h n x h1.1 h1.2 h2.1 h2.2
  rwa [show ((1 : Int) * 21 + n) * 21 + x = (21 + n) * 21 + x by omega] at this
theorem v2 {S : jMem} (h : vOK S 2) {n x : Int} (h1 : 0 ≤ n ∧ n ≤ S 2 2 / 2 * 2) (h2 : 0 ≤ x ∧ x ≤ S 2 2) : S 27 ((42 + n) * 21 + x) = pworth (S 2 2) n x := by
  have := h n x h1.1 h1.2 h2.1 h2.2
  rwa [show ((2 : Int) * 21 + n) * 21 + x = (42 + n) * 21 + x by omega] at this
/-- the products on axes 0 and 1 are told -/
def aOK (S : jMem) (n0 n1 : Int) : Prop := S 25 6 = pworth (S 2 0) n0 (S 2 0) * pworth (S 2 1) n1 (S 2 1) ∧ ∀ i, 0 ≤ i → i < S 29 (S 1 4) → S 30 i = pworth (S 2 0) n0 (S 28 (i * 3 + 0)) * pworth (S 2 1) n1 (S 28 (i * 3 + 1))
/-- a component's caches don't look at these cells -/
theorem dOK.keeps {ks : List Nat} {S0 S : jMem} (h : dOK S0) (hk : keeps ks S0 S) (hq : 1 ∉ ks ∧ 2 ∉ ks ∧ 3 ∉ ks ∧ 4 ∉ ks ∧ 27 ∉ ks ∧ 28 ∉ ks ∧ 29 ∉ ks) : dOK S := by
  obtain ⟨q1, q2, q3, q4, q5, q6, q7⟩ := hq
  unfold dOK vOK at h ⊢
  rw [hk 1 q1, hk 2 q2, hk 3 q3, hk 4 q4, hk 27 q5, hk 28 q6, hk 29 q7]
  exact h
abbrev isFn (S : jMem) (a n : Int) : Prop := 0 ≤ n ∧ n ≤ S 2 a / 2 * 2
theorem has_in {len : Int → Int} {n0 n1 n2 : Int} (hl : ∀ a, 0 ≤ a → a < 3 → 1 ≤ len a ∧ len a ≤ 20) (h0 : 0 ≤ n0 ∧ n0 ≤ len 0 / 2 * 2) (h1 : 0 ≤ n1 ∧ n1 ≤ len 1 / 2 * 2) (h2 : 0 ≤ n2 ∧ n2 ≤ len 2 / 2 * 2) : 0 ≤ phas3 len n0 n1 n2 ∧ phas3 len n0 n1 n2 ≤ 64000 := by
  have a0 := hl 0 (by omega) (by omega)
  have a1 := hl 1 (by omega) (by omega)
  have a2 := hl 2 (by omega) (by omega)
  have w0 := pworth_in a0 h0 (x := len 0) (by omega)
  have w1 := pworth_in a1 h1 (x := len 1) (by omega)
  have w2 := pworth_in a2 h2 (x := len 2) (by omega)
  have := mul_in (mul_in ⟨w0.1, w0.2.2.2⟩ ⟨w1.1, w1.2.2.2⟩) ⟨w2.1, w2.2.2.2⟩
  exact this
theorem prod_in {n : Int} {len sid tb wt : Int → Int} (hk : sOK n len sid tb wt) {n0 n1 n2 b t : Int} (hb : 0 ≤ b ∧ b < 8) (ht : pshort len sid b t) (h0 : 0 ≤ n0 ∧ n0 ≤ len 0 / 2 * 2) (h1 : 0 ≤ n1 ∧ n1 ≤ len 1 / 2 * 2) (h2 : 0 ≤ n2 ∧ n2 ≤ len 2 / 2 * 2) : 0 ≤ pprod len sid n0 n1 n2 b t ∧ pprod len sid n0 n1 n2 b t ≤ phas3 len n0 n1 n2 := by
  have a0 := hk.2.1 0 (by omega) (by omega)
  have a1 := hk.2.1 1 (by omega) (by omega)
  have a2 := hk.2.1 2 (by omega) (by omega)
  have e0 := pext_in hk (b := b) (t := t) (a := 0) (by omega) (by omega)
  have e1 := pext_in hk (b := b) (t := t) (a := 1) (by omega) (by omega)
  have e2 := pext_in hk (b := b) (t := t) (a := 2) (by omega) (by omega)
  have w0 := pworth_in a0 h0 (x := pext sid b t 0) (by omega)
  have w1 := pworth_in a1 h1 (x := pext sid b t 1) (by omega)
  have w2 := pworth_in a2 h2 (x := pext sid b t 2) (by omega)
  exact mul_in (mul_in ⟨w0.1, w0.2.1⟩ ⟨w1.1, w1.2.1⟩) ⟨w2.1, w2.2.1⟩
def chI (S0 : jMem) (n0 n1 i : Int) (S : jMem) : Prop := keeps [25, 30] S0 S ∧ (∀ j, S 25 j = if j = 6 then pworth (S0 2 0) n0 (S0 2 0) * pworth (S0 2 1) n1 (S0 2 1) else S0 25 j) ∧ ∀ j, 0 ≤ j → j < i → S 30 j = pworth (S0 2 0) n0 (S0 28 (j * 3 + 0)) * pworth (S0 2 1) n1 (S0 28 (j * 3 + 1))
theorem chI.step {S0 S : jMem} {n0 n1 i v : Int} (h : chI S0 n0 n1 i S) (hv : v = pworth (S0 2 0) n0 (S0 28 (i * 3 + 0)) * pworth (S0 2 1) n1 (S0 28 (i * 3 + 1))) : chI S0 n0 n1 (i + 1) (up2 S 30 i v) := by
  refine ⟨h.1.up (by decide) _ _, fun j => by rw [up2_k _ _ _ (by decide)]; exact h.2.1 j, fun j h1 h2 => ?_⟩
  by_cases hj : j = i
  · subst hj; rw [up2_eq]; exact hv
  · rw [up2_a _ _ _ hj]; exact h.2.2 j h1 (by omega)
theorem chI.done {S0 S : jMem} {n0 n1 : Int} (h : chI S0 n0 n1 (S0 29 (S0 1 4)) S) : aOK S n0 n1 := by
  unfold aOK
  rw [h.1 2 (by decide), h.1 29 (by decide), h.1 1 (by decide), h.1 28 (by decide)]
  exact ⟨by rw [h.2.1 6, if_pos rfl], h.2.2⟩
/-- the least so far: rows lo .. i - 1 of a box -/
def lsI (has : Int) (v : Int → Int) (lo i m : Int) : Prop := m ≤ has + 1 ∧ (∀ j, lo ≤ j → j < i → m ≤ v j) ∧ (m = has + 1 ∨ ∃ j, (lo ≤ j ∧ j < i) ∧ m = v j)
theorem lsI.step {has lo i m : Int} {v : Int → Int} (h : lsI has v lo i m) (hl : lo ≤ i) : lsI has v lo (i + 1) (min m (v i)) := by
  obtain ⟨h1, h2, h3⟩ := h
  refine ⟨by omega, fun j a b => ?_, ?_⟩
  · by_cases e : j = i
    · subst e; omega
    · have := h2 j a (by omega); omega
  · by_cases c : m ≤ v i
    · rw [show min m (v i) = m by omega]
      rcases h3 with e | ⟨j, a, b⟩
      · exact Or.inl e
      · exact Or.inr ⟨j, by omega, b⟩
    · exact Or.inr ⟨i, by omega, by omega⟩
theorem lsI.done {S : jMem} (hk : cOK S) (hd : dOK S) {n0 n1 n2 b m : Int} (ha : aOK S n0 n1) (hb : 0 ≤ b ∧ b < S 1 4) (h2 : isFn S 2 n2) (h : lsI (phas3 (S 2) n0 n1 n2) (fun i => S 30 i * S 27 ((42 + n2) * 21 + S 28 (i * 3 + 2))) (S 29 b) (S 29 (b + 1)) m) : isLeast (S 2) (S 3) (S 4) n0 n1 n2 b m := by
  obtain ⟨h1, h3, h4⟩ := h
  have hn := hk.1
  have hf := hd.2.2 b hb.1 hb.2
  have f0 := hd.2.1 b hb.1 (by omega)
  have fl := first_le hd _ (b + 1) (S 1 4) rfl (by omega) (by omega) (Int.le_refl _)
  have val : ∀ i t, S 29 b ≤ i → i < S 29 (b + 1) → rowIs (S 28) (S 3) i b t → pshort (S 2) (S 3) b t → S 30 i * S 27 ((42 + n2) * 21 + S 28 (i * 3 + 2)) = pprod (S 2) (S 3) n0 n1 n2 b t := by
    intro i t i1 i2 hr hs
    have e2 := pext_in hk (b := b) (t := t) (a := 2) (by omega) (by omega)
    rw [ha.2 i (by omega) (by omega), hr.1, hr.2.1, hr.2.2, v2 hd.1.2.2 h2 (by omega)]
    rfl
  refine ⟨h1, fun t ht => ?_, ?_⟩
  · obtain ⟨u, u1, u2, u3⟩ := pcounts_of _ t rfl ht
    obtain ⟨i, i1, i2⟩ := hf.2.2 u (by omega) (by omega) u2
    have := h3 i i1.1 i1.2
    dsimp only at this
    rw [val i u i1.1 i1.2 i2 u2.2.1] at this
    unfold pprod at this ⊢
    rw [← u3.1, ← u3.2.1, ← u3.2.2]
    exact this
  · rcases h4 with e | ⟨i, i1, e⟩
    · exact Or.inl e
    · obtain ⟨t, t1, t2, t3⟩ := hf.2.1 i i1.1 i1.2
      refine Or.inr ⟨t, ⟨t1, t2.1, t2.2.1⟩, ?_⟩
      rw [e]
      exact val i t i1.1 i1.2 t3 t2.2.1
end
section
theorem isLeast_ex (len sid tb : Int → Int) (n0 n1 n2 b : Int) : ∃ m, isLeast len sid tb n0 n1 n2 b m := by
  have key : ∀ k : Nat, ∃ m, m ≤ phas3 len n0 n1 n2 + 1 ∧ (∀ t : Int, t < k → pturn len sid tb b t → m ≤ pprod len sid n0 n1 n2 b t) ∧ (m = phas3 len n0 n1 n2 + 1 ∨ ∃ t, pturn len sid tb b t ∧ m = pprod len sid n0 n1 n2 b t) := by
    intro k
    induction k with
    | zero => exact ⟨_, Int.le_refl _, fun t h1 h2 => by omega, Or.inl rfl⟩
    | succ k ih =>
      obtain ⟨m, h1, h2, h3⟩ := ih
      by_cases c : pturn len sid tb b k
      · refine ⟨min m (pprod len sid n0 n1 n2 b k), by omega, fun t a1 a2 => ?_, ?_⟩
        · by_cases e : t = k
          · subst e; omega
          · have := h2 t (by omega) a2; omega
        · by_cases d : m ≤ pprod len sid n0 n1 n2 b k
          · rw [show min m (pprod len sid n0 n1 n2 b k) = m by omega]; exact h3
          · exact Or.inr ⟨k, c, by omega⟩
      · refine ⟨m, h1, fun t a1 a2 => ?_, h3⟩
        by_cases e : t = k
        · subst e; exact absurd a2 c
        · exact h2 t (by omega) a2
  obtain ⟨m, h1, h2, h3⟩ := key 6
  exact ⟨m, h1, fun t ht => h2 t (by omega) ht, h3⟩
theorem l_choose {E : jEnv} {G : jG} (hG : cG G) (C : jX E G cX1_choose 7 RX1 0 0) (S0 : jMem) (n0 n1 : Int) (hk : cOK S0) (hd : dOK S0) (f0 : isFn S0 0 n0) (f1 : isFn S0 1 n1) (R : jR E G none (jPv (fun S' => keeps [25, 30] S0 S' ∧ (∀ j, S' 25 j = if j = 6 then pworth (S0 2 0) n0 (S0 2 0) * pworth (S0 2 1) n1 (S0 2 1) else S0 25 j) ∧ aOK S' n0 n1))) : ∀ (mm : Nat) (i : Int) (S : jMem), mm = (S0 29 (S0 1 4) - i).toNat → (chI S0 n0 n1 i S ∧ (0 ≤ i ∧ i ≤ S0 29 (S0 1 4))) → J E G 55 [(0, .ref (jad G 25)), (3, .int (iI (n0 * 21))), (4, .int (iI ((21 + n1) * 21))), (5, .int (iI (i)))] [] S := by
  intro mm
  induction mm using Nat.strongRecOn with | ind mm ih => ?_
  intro i S hm hj
  obtain ⟨hj, hi⟩ := hj
  have hn := hk.1
  have l0 := hk.2.1 0 (by omega) (by omega)
  have l1 := hk.2.1 1 (by omega) (by omega)
  have l2 := hk.2.1 2 (by omega) (by omega)
  have e1 : S 1 4 = S0 1 4 := by rw [hj.1 1 (by decide)]
  have e29 : S 29 (S 1 4) = S0 29 (S0 1 4) := by rw [hj.1 29 (by decide), e1]
  have q29 := first_in hk hd hn.1 (Int.le_refl _)
  refine J_iload C 3 dX1_choose_55 rfl ?_
  refine J_aload_n C 0 dX1_choose_57 rfl ?_
  refine g_X1_21 hG C dX1_choose_58 ?_
  refine J_aload_n C 0 dX1_choose_61 rfl ?_
  refine g_X1_30 hG C dX1_choose_62 ?_
  refine g_X1_54 hG C dX1_choose_65 ?_
  refine cald hG C 29 9 (by decide) dX1_choose_68 (by omega) (by omega) ?_
  refine J_icmp_ge C 123 dX1_choose_69 (by decide) (by omega) (by omega) (fun h1 => ?_) (fun h1 => ?_)
  · have e : i = S0 29 (S0 1 4) := by omega
    rw [e] at hj
    exact J_vret R C dX1_choose_123 (jPv.mk ⟨hj.1, hj.2.1, hj.done⟩)
  · have r := row_len hk hd (i := i) hi.1 (by omega)
    have e0 : S 28 (i * 3) = S0 28 (i * 3 + 0) := by rw [hj.1 28 (by decide), Int.add_zero]
    have e3 : S 28 (i * 3 + 1) = S0 28 (i * 3 + 1) := by rw [hj.1 28 (by decide)]
    refine J_iload C 3 dX1_choose_72 rfl ?_
    refine J_iconst C dX1_choose_74 ?_
    refine J_imul C dX1_choose_75 ?_
    refine J_istore (lv' := [(6, .int (iI ((i) * (3)))), (0, .ref (jad G 25)), (3, .int (iI (n0 * 21))), (4, .int (iI ((21 + n1) * 21))), (5, .int (iI (i)))]) C dX1_choose_76 (by decide) rfl ?_
    refine J_aload_n C 1 dX1_choose_78 rfl ?_
    refine g_X1_24 hG C dX1_choose_79 ?_
    refine J_iload C 4 dX1_choose_82 rfl ?_
    refine J_aload_n C 1 dX1_choose_84 rfl ?_
    refine g_X1_15 hG C dX1_choose_85 ?_
    refine J_iload_n C 2 dX1_choose_88 rfl ?_
    refine J_aload_n C 1 dX1_choose_89 rfl ?_
    refine g_X1_18 hG C dX1_choose_90 ?_
    refine J_iload C 0 dX1_choose_93 rfl ?_
    refine cald hG C 28 144 (by decide) dX1_choose_95 (by omega) (by omega) ?_
    refine J_iadd C dX1_choose_96 ?_
    refine cald hG C 27 1323 (by decide) dX1_choose_97 (by omega) (by omega) ?_
    refine J_aload_n C 1 dX1_choose_98 rfl ?_
    refine g_X1_15 hG C dX1_choose_99 ?_
    refine J_iload C 3 dX1_choose_102 rfl ?_
    refine J_aload_n C 1 dX1_choose_104 rfl ?_
    refine g_X1_18 hG C dX1_choose_105 ?_
    refine J_iload C 0 dX1_choose_108 rfl ?_
    refine J_iconst C dX1_choose_110 ?_
    refine J_iadd C dX1_choose_111 ?_
    refine cald hG C 28 144 (by decide) dX1_choose_112 (by omega) (by omega) ?_
    refine J_iadd C dX1_choose_113 ?_
    refine cald hG C 27 1323 (by decide) dX1_choose_114 (by omega) (by omega) ?_
    refine J_imul C dX1_choose_115 ?_
    refine cast hG C 30 48 (by decide) dX1_choose_116 (by omega) (by omega) ?_
    refine J_iinc (lv' := [(5, .int (iI (i + 1))), (6, .int (iI ((i) * (3)))), (0, .ref (jad G 25)), (3, .int (iI (n0 * 21))), (4, .int (iI ((21 + n1) * 21)))]) C 4 dX1_choose_117 rfl (by decide) rfl ?_
    refine J_goto C 55 dX1_choose_120 (by decide) ?_
    refine J_lv [2, 3, 4, 0] rfl ?_
    refine ih _ (by omega) (i + 1) _ rfl ⟨hj.step ?_, by omega⟩
    rw [e0, e3, hj.1 27 (by decide), v0 hd.1.1 f0 (by omega), v1 hd.1.2.1 f1 (by omega)]
theorem c_choose {G : jG} (hG : cG G) (S0 : jMem) (n0 n1 : Int) (hk : cOK S0) (hd : dOK S0) (f0 : isFn S0 0 n0) (f1 : isFn S0 1 n1) : jM G yX1_choose cX1_choose 7 none 0 0 [.ref (jad G 25), .int (iI (n0)), .int (iI (n1))] S0 (jPv (fun S' => keeps [25, 30] S0 S' ∧ (∀ j, S' 25 j = if j = 6 then pworth (S0 2 0) n0 (S0 2 0) * pworth (S0 2 1) n1 (S0 2 1) else S0 25 j) ∧ aOK S' n0 n1)) := by
  refine jM.of (by decide) (Nat.le_of_ble_eq_true rfl) (fun E C R => ?_)
  show J E G 0 [(0, .ref (jad G 25)), (1, .int (iI (n0))), (2, .int (iI (n1)))] [] _
  have hn := hk.1
  have l0 := hk.2.1 0 (by omega) (by omega)
  have l1 := hk.2.1 1 (by omega) (by omega)
  have l2 := hk.2.1 2 (by omega) (by omega)
  have q29 := first_in hk hd hn.1 (Int.le_refl _)
  refine J_iload_n C 1 dX1_choose_0 rfl ?_
  refine J_bipush C dX1_choose_1 (by decide) ?_
  refine J_imul C dX1_choose_3 ?_
  refine J_istore_n (lv' := [(3, .int (iI ((n0) * (21)))), (0, .ref (jad G 25)), (1, .int (iI (n0))), (2, .int (iI (n1)))]) C dX1_choose_4 (by decide) rfl ?_
  refine J_bipush C dX1_choose_5 (by decide) ?_
  refine J_iload_n C 3 dX1_choose_7 rfl ?_
  refine J_iadd C dX1_choose_8 ?_
  refine J_bipush C dX1_choose_9 (by decide) ?_
  refine J_imul C dX1_choose_11 ?_
  refine J_istore (lv' := [(4, .int (iI (((21) + (n1)) * (21)))), (3, .int (iI ((n0) * (21)))), (0, .ref (jad G 25)), (1, .int (iI (n0))), (2, .int (iI (n1)))]) C dX1_choose_12 (by decide) rfl ?_
  refine J_aload_n C 2 dX1_choose_14 rfl ?_
  refine J_aload_n C 2 dX1_choose_15 rfl ?_
  refine g_X1_15 hG C dX1_choose_16 ?_
  refine J_iload_n C 1 dX1_choose_19 rfl ?_
  refine J_aload_n C 2 dX1_choose_20 rfl ?_
  refine g_X1_30 hG C dX1_choose_21 ?_
  refine g_X1_41 hG C dX1_choose_24 ?_
  refine J_iconst C dX1_choose_27 ?_
  refine cald hG C 2 3 (by decide) dX1_choose_28 (by omega) (by omega) ?_
  refine J_iadd C dX1_choose_29 ?_
  refine cald hG C 27 1323 (by decide) dX1_choose_30 (by omega) (by omega) ?_
  refine J_aload_n C 2 dX1_choose_31 rfl ?_
  refine g_X1_15 hG C dX1_choose_32 ?_
  refine J_iload C 0 dX1_choose_35 rfl ?_
  refine J_aload_n C 2 dX1_choose_37 rfl ?_
  refine g_X1_30 hG C dX1_choose_38 ?_
  refine g_X1_41 hG C dX1_choose_41 ?_
  refine J_iconst C dX1_choose_44 ?_
  refine cald hG C 2 3 (by decide) dX1_choose_45 (by omega) (by omega) ?_
  refine J_iadd C dX1_choose_46 ?_
  refine cald hG C 27 1323 (by decide) dX1_choose_47 (by omega) (by omega) ?_
  refine J_imul C dX1_choose_48 ?_
  refine p_X1_73 hG C dX1_choose_49 ?_
  refine J_iconst C dX1_choose_52 ?_
  refine J_istore (lv' := [(5, .int (iI (0))), (4, .int (iI (((21) + (n1)) * (21)))), (3, .int (iI ((n0) * (21)))), (0, .ref (jad G 25)), (1, .int (iI (n0))), (2, .int (iI (n1)))]) C dX1_choose_53 (by decide) rfl ?_
  refine J_lv [3, 2, 1, 0] rfl ?_
  refine l_choose hG C S0 n0 n1 hk hd f0 f1 R _ 0 _ rfl ⟨⟨keeps.rf.up (by decide) _ _, fun j => ?_, fun j h1 h2 => by omega⟩, by omega⟩
  rw [v0 hd.1.1 f0 (by omega), v1 hd.1.2.1 f1 (by omega)]
  unfold up2; by_cases hj : j = 6 <;> simp [hj]
theorem l_need2 {E : jEnv} {G : jG} (hG : cG G) (C : jX E G cX1_needOf 9 RX1 1 21) (S : jMem) (n0 n1 n2 m b acc : Int) (hk : cOK S) (hd : dOK S) (ha : aOK S n0 n1) (f0 : isFn S 0 n0) (f1 : isFn S 1 n1) (f2 : isFn S 2 n2) (hb : 0 ≤ b ∧ b < S 1 4) : ∀ (mm : Nat) (i ls : Int), mm = (S 29 (b + 1) - i).toNat → (lsI (phas3 (S 2) n0 n1 n2) (fun i => S 30 i * S 27 ((42 + n2) * 21 + S 28 (i * 3 + 2))) (S 29 b) i ls ∧ (S 29 b ≤ i ∧ i ≤ S 29 (b + 1)) ∧ (0 ≤ ls)) → (∀ r, isLeast (S 2) (S 3) (S 4) n0 n1 n2 b r → J E G 111 [(0, .ref (jad G 25)), (1, .int (iI m)), (3, .int (iI ((42 + n2) * 21))), (4, .int (iI (phas3 (S 2) n0 n1 n2 + 1))), (5, .int (iI acc)), (6, .int (iI b)), (7, .int (iI r))] [] S) → J E G 58 [(0, .ref (jad G 25)), (1, .int (iI (m))), (3, .int (iI ((42 + n2) * 21))), (4, .int (iI (phas3 (S 2) n0 n1 n2 + 1))), (5, .int (iI (acc))), (6, .int (iI (b))), (7, .int (iI (ls))), (8, .int (iI (i)))] [] S := by
  intro mm
  induction mm using Nat.strongRecOn with | ind mm ih => ?_
  intro i ls hm hj K
  obtain ⟨hj, hi, h00⟩ := hj
  have hn := hk.1
  have l0 := hk.2.1 0 (by omega) (by omega)
  have l1 := hk.2.1 1 (by omega) (by omega)
  have l2 := hk.2.1 2 (by omega) (by omega)
  have hh := has_in hk.2.1 f0 f1 f2
  have fl := first_le hd _ (b + 1) (S 1 4) rfl (by omega) (by omega) (Int.le_refl _)
  have q0 := first_in hk hd (b := b) (by omega) (by omega)
  have q1 := first_in hk hd (b := b + 1) (by omega) (by omega)
  have q2 := first_in hk hd hn.1 (Int.le_refl _)
  have hls := hj.1
  refine J_iload C 7 dX1_needOf_58 rfl ?_
  refine J_aload_n C 0 dX1_needOf_60 rfl ?_
  refine g_X1_21 hG C dX1_needOf_61 ?_
  refine J_iload C 5 dX1_needOf_64 rfl ?_
  refine J_iconst C dX1_needOf_66 ?_
  refine J_iadd C dX1_needOf_67 ?_
  refine cald hG C 29 9 (by decide) dX1_needOf_68 (by omega) (by omega) ?_
  refine J_icmp_ge C 111 dX1_needOf_69 (by decide) (by omega) (by omega) (fun h1 => ?_) (fun h1 => ?_)
  · refine J_lv [0, 1, 2, 3, 4, 5, 6] rfl ?_
    have e : i = S 29 (b + 1) := by omega
    rw [e] at hj
    exact K ls (hj.done hk hd ha hb f2)
  · have r := row_len hk hd (i := i) (by omega) (by omega)
    have ev := v2 hd.1.2.2 f2 (x := S 28 (i * 3 + 2)) (by omega)
    have w0 := pworth_in l0 f0 (x := S 28 (i * 3 + 0)) (by omega)
    have w1 := pworth_in l1 f1 (x := S 28 (i * 3 + 1)) (by omega)
    have w2 := pworth_in l2 f2 (x := S 28 (i * 3 + 2)) (by omega)
    have hv := mul_in (mul_in (A := 40) (B := 40) ⟨w0.1, by omega⟩ ⟨w1.1, by omega⟩) (B := 40) ⟨w2.1, by omega⟩
    rw [← ev, ← ha.2 i (by omega) (by omega)] at hv
    refine J_iload C 6 dX1_needOf_72 rfl ?_
    refine J_aload_n C 0 dX1_needOf_74 rfl ?_
    refine g_X1_24 hG C dX1_needOf_75 ?_
    refine J_iload C 7 dX1_needOf_78 rfl ?_
    refine cald hG C 30 48 (by decide) dX1_needOf_80 (by omega) (by omega) ?_
    refine J_aload_n C 0 dX1_needOf_81 rfl ?_
    refine g_X1_15 hG C dX1_needOf_82 ?_
    refine J_iload_n C 2 dX1_needOf_85 rfl ?_
    refine J_aload_n C 0 dX1_needOf_86 rfl ?_
    refine g_X1_18 hG C dX1_needOf_87 ?_
    refine J_iload C 7 dX1_needOf_90 rfl ?_
    refine J_iconst C dX1_needOf_92 ?_
    refine J_imul C dX1_needOf_93 ?_
    refine J_iconst C dX1_needOf_94 ?_
    refine J_iadd C dX1_needOf_95 ?_
    refine cald hG C 28 144 (by decide) dX1_needOf_96 (by omega) (by omega) ?_
    refine J_iadd C dX1_needOf_97 ?_
    refine cald hG C 27 1323 (by decide) dX1_needOf_98 (by omega) (by omega) ?_
    refine J_imul C dX1_needOf_99 ?_
    refine J_callS (rest := []) C (c_min hG S (ls) ((S 30 (i)) * (S 27 (((42 + n2) * 21) + (S 28 (((i) * (3)) + (2)))))) (by omega) (by omega)) kc_J9_min_7cf53 kl_X1_79 dX1_needOf_100 rfl rfl (by decide) (Nat.le_of_ble_eq_true rfl) (J_ki (fun v2 S2 h2 => ?_))
    obtain ⟨rfl, rfl⟩ := h2
    refine J_istore (lv' := [(7, .int (iI (min (ls) ((S 30 (i)) * (S 27 (((42 + n2) * 21) + (S 28 (((i) * (3)) + (2))))))))), (0, .ref (jad G 25)), (1, .int (iI (m))), (3, .int (iI ((42 + n2) * 21))), (4, .int (iI (phas3 (S 2) n0 n1 n2 + 1))), (5, .int (iI (acc))), (6, .int (iI (b))), (8, .int (iI (i)))]) C dX1_needOf_103 (by decide) rfl ?_
    refine J_iinc (lv' := [(8, .int (iI (i + 1))), (7, .int (iI (min (ls) ((S 30 (i)) * (S 27 (((42 + n2) * 21) + (S 28 (((i) * (3)) + (2))))))))), (0, .ref (jad G 25)), (1, .int (iI (m))), (3, .int (iI ((42 + n2) * 21))), (4, .int (iI (phas3 (S 2) n0 n1 n2 + 1))), (5, .int (iI (acc))), (6, .int (iI (b)))]) C 7 dX1_needOf_105 rfl (by decide) rfl ?_
    refine J_goto C 58 dX1_needOf_108 (by decide) ?_
    refine J_lv [2, 3, 4, 5, 6, 7, 1, 0] rfl ?_
    exact ih _ (by omega) (i + 1) _ rfl ⟨hj.step (by omega), by omega, by omega⟩ K
theorem l_need1 {E : jEnv} {G : jG} (hG : cG G) (C : jX E G cX1_needOf 9 RX1 1 21) (S : jMem) (n0 n1 n2 m : Int) (hk : cOK S) (hd : dOK S) (ha : aOK S n0 n1) (f0 : isFn S 0 n0) (f1 : isFn S 1 n1) (f2 : isFn S 2 n2) (hm0 : 0 ≤ m ∧ m ≤ 255) (R : jR E G (some .int) (jPi (fun v S' => pneed (S 1 4) (S 2) (S 3) (S 4) n0 n1 n2 m = v ∧ S = S'))) : ∀ (mm : Nat) (b acc : Int), mm = (S 1 4 - b).toNat → ((0 ≤ b ∧ b ≤ S 1 4) ∧ acc + isum (fun b => bb (zbit m b) * pleast (S 2) (S 3) (S 4) n0 n1 n2 b) b (S 1 4 - b).toNat = pneed (S 1 4) (S 2) (S 3) (S 4) n0 n1 n2 m) → J E G 23 [(0, .ref (jad G 25)), (1, .int (iI (m))), (3, .int (iI ((42 + n2) * 21))), (4, .int (iI (phas3 (S 2) n0 n1 n2 + 1))), (5, .int (iI (acc))), (6, .int (iI (b)))] [] S := by
  intro mm
  induction mm using Nat.strongRecOn with | ind mm ih => ?_
  intro b acc hm hj
  have hn := hk.1
  have hz := zdiv_in hm0.1 b.toNat
  have hh := has_in hk.2.1 f0 f1 f2
  have hb := hj.1
  refine J_iload C 5 dX1_needOf_23 rfl ?_
  refine J_aload_n C 0 dX1_needOf_25 rfl ?_
  refine g_X1_30 hG C dX1_needOf_26 ?_
  refine g_X1_54 hG C dX1_needOf_29 ?_
  refine J_icmp_ge C 124 dX1_needOf_32 (by decide) (by omega) (by omega) (fun h1 => ?_) (fun h1 => ?_)
  · refine J_iload C 4 dX1_needOf_124 rfl ?_
    exact J_iret R C dX1_needOf_126 (jPi.mk ⟨by have e := isum_end (fun b => bb (zbit m b) * pleast (S 2) (S 3) (S 4) n0 n1 n2 b) (i := b) (hi := S 1 4) (by omega); omega, rfl⟩)
  · refine J_iload_n C 1 dX1_needOf_35 rfl ?_
    refine J_iload C 5 dX1_needOf_36 rfl ?_
    refine J_ishr C dX1_needOf_38 (by omega) (by omega) (by omega) ?_
    refine J_iconst C dX1_needOf_39 ?_
    refine J_iand C (((m) / 2 ^ (b).toNat) % 2) dX1_needOf_40 (iI_and1 _ (by omega)) ?_
    refine J_iconst C dX1_needOf_41 ?_
    refine J_icmp_ne C 118 dX1_needOf_42 (by decide) (by omega) (by omega) (fun h2 => ?_) (fun h2 => ?_)
    · refine J_iinc (lv' := [(6, .int (iI (b + 1))), (0, .ref (jad G 25)), (1, .int (iI (m))), (3, .int (iI ((42 + n2) * 21))), (4, .int (iI (phas3 (S 2) n0 n1 n2 + 1))), (5, .int (iI (acc)))]) C 5 dX1_needOf_118 rfl (by decide) rfl ?_
      refine J_goto C 23 dX1_needOf_121 (by decide) ?_
      have e := isum_step (fun b => bb (zbit m b) * pleast (S 2) (S 3) (S 4) n0 n1 n2 b) (i := b) (hi := S 1 4) (by omega)
      rw [bb_mul_f (by assumption)] at e
      refine J_lv [1, 2, 3, 4, 5, 0] rfl ?_
      exact ih _ (by omega) (b + 1) acc rfl ⟨by omega, by omega⟩
    · have q0 := first_in hk hd (b := b) (by omega) (by omega)
      refine J_iload C 3 dX1_needOf_45 rfl ?_
      refine J_istore (lv' := [(7, .int (iI (phas3 (S 2) n0 n1 n2 + 1))), (0, .ref (jad G 25)), (1, .int (iI (m))), (3, .int (iI ((42 + n2) * 21))), (4, .int (iI (phas3 (S 2) n0 n1 n2 + 1))), (5, .int (iI (acc))), (6, .int (iI (b)))]) C dX1_needOf_47 (by decide) rfl ?_
      refine J_aload_n C 1 dX1_needOf_49 rfl ?_
      refine g_X1_21 hG C dX1_needOf_50 ?_
      refine J_iload C 6 dX1_needOf_53 rfl ?_
      refine cald hG C 29 9 (by decide) dX1_needOf_55 (by omega) (by omega) ?_
      refine J_istore (lv' := [(8, .int (iI (S 29 (b)))), (7, .int (iI (phas3 (S 2) n0 n1 n2 + 1))), (0, .ref (jad G 25)), (1, .int (iI (m))), (3, .int (iI ((42 + n2) * 21))), (4, .int (iI (phas3 (S 2) n0 n1 n2 + 1))), (5, .int (iI (acc))), (6, .int (iI (b)))]) C dX1_needOf_56 (by decide) rfl ?_
      refine J_lv [2, 3, 4, 5, 6, 7, 1, 0] rfl ?_
      refine l_need2 hG C S n0 n1 n2 m b acc hk hd ha f0 f1 f2 (by omega) _ _ _ rfl ⟨⟨Int.le_refl _, fun j h1 h2 => by omega, Or.inl rfl⟩, ⟨Int.le_refl _, (hd.2.2 b (by omega) (by omega)).1⟩, by omega⟩ (fun r hr => ?_)
      have e := isum_step (fun b => bb (zbit m b) * pleast (S 2) (S 3) (S 4) n0 n1 n2 b) (i := b) (hi := S 1 4) (by omega)
      rw [bb_mul_t (by assumption), pleast_eq hr] at e
      refine J_iload C 4 dX1_needOf_111 rfl ?_
      refine J_iload C 6 dX1_needOf_113 rfl ?_
      refine J_iadd C dX1_needOf_115 ?_
      refine J_istore (lv' := [(5, .int (iI (acc + r))), (0, .ref (jad G 25)), (1, .int (iI m)), (3, .int (iI ((42 + n2) * 21))), (4, .int (iI (phas3 (S 2) n0 n1 n2 + 1))), (6, .int (iI b)), (7, .int (iI r))]) C dX1_needOf_116 (by decide) rfl ?_
      refine J_iinc (lv' := [(6, .int (iI (b + 1))), (5, .int (iI (acc + r))), (0, .ref (jad G 25)), (1, .int (iI m)), (3, .int (iI ((42 + n2) * 21))), (4, .int (iI (phas3 (S 2) n0 n1 n2 + 1))), (7, .int (iI r))]) C 5 dX1_needOf_118 rfl (by decide) rfl ?_
      refine J_goto C 23 dX1_needOf_121 (by decide) ?_
      refine J_lv [2, 3, 4, 5, 1, 0] rfl ?_
      exact ih _ (by omega) (b + 1) (acc + r) rfl ⟨by omega, by omega⟩
theorem c_needOf {G : jG} (hG : cG G) (S : jMem) (n0 n1 n2 m : Int) (hk : cOK S) (hd : dOK S) (ha : aOK S n0 n1) (f0 : isFn S 0 n0) (f1 : isFn S 1 n1) (f2 : isFn S 2 n2) (hm0 : 0 ≤ m ∧ m ≤ 255) : jM G yX1_needOf cX1_needOf 9 (some .int) 1 21 [.ref (jad G 25), .int (iI (m)), .int (iI (n2))] S (jPi (fun v S' => pneed (S 1 4) (S 2) (S 3) (S 4) n0 n1 n2 m = v ∧ S = S')) := by
  refine jM.of (by decide) (Nat.le_of_ble_eq_true rfl) (fun E C R => ?_)
  show J E G 0 [(0, .ref (jad G 25)), (1, .int (iI (m))), (2, .int (iI (n2)))] [] _
  have hn := hk.1
  have l0 := hk.2.1 0 (by omega) (by omega)
  have l1 := hk.2.1 1 (by omega) (by omega)
  have l2 := hk.2.1 2 (by omega) (by omega)
  have hh := has_in hk.2.1 f0 f1 f2
  refine J_bipush C dX1_needOf_0 (by decide) ?_
  refine J_iload_n C 2 dX1_needOf_2 rfl ?_
  refine J_iadd C dX1_needOf_3 ?_
  refine J_bipush C dX1_needOf_4 (by decide) ?_
  refine J_imul C dX1_needOf_6 ?_
  refine J_istore_n (lv' := [(3, .int (iI (((42) + (n2)) * (21)))), (0, .ref (jad G 25)), (1, .int (iI (m))), (2, .int (iI (n2)))]) C dX1_needOf_7 (by decide) rfl ?_
  refine J_aload_n C 1 dX1_needOf_8 rfl ?_
  refine J_iload_n C 3 dX1_needOf_9 rfl ?_
  refine J_callV (k := 25) (rest := []) C (c_binHas hG S (n2) hk (by omega)) kc_X1_binHas kl_X1_76 (by rw [hG.2]; decide) (by rw [hG.1]; rfl) rfl dX1_needOf_10 rfl rfl (by decide) (Nat.le_of_ble_eq_true rfl) (J_ki (fun v1 S1 h1 => ?_))
  obtain ⟨rfl, rfl⟩ := h1
  refine J_top (b := phas3 (S 2) n0 n1 n2) (by rw [show (2 : Int) * 21 + n2 = 42 + n2 by omega, ha.1, v2 hd.1.2.2 f2 (by omega)]; rfl) ?_
  refine J_iconst C dX1_needOf_13 ?_
  refine J_iadd C dX1_needOf_14 ?_
  refine J_istore (lv' := [(4, .int (iI ((phas3 (S 2) n0 n1 n2) + (1)))), (3, .int (iI (((42) + (n2)) * (21)))), (0, .ref (jad G 25)), (1, .int (iI (m))), (2, .int (iI (n2)))]) C dX1_needOf_15 (by decide) rfl ?_
  refine J_iconst C dX1_needOf_17 ?_
  refine J_istore (lv' := [(5, .int (iI (0))), (4, .int (iI ((phas3 (S 2) n0 n1 n2) + (1)))), (3, .int (iI (((42) + (n2)) * (21)))), (0, .ref (jad G 25)), (1, .int (iI (m))), (2, .int (iI (n2)))]) C dX1_needOf_18 (by decide) rfl ?_
  refine J_iconst C dX1_needOf_20 ?_
  refine J_istore (lv' := [(6, .int (iI (0))), (5, .int (iI (0))), (4, .int (iI ((phas3 (S 2) n0 n1 n2) + (1)))), (3, .int (iI (((42) + (n2)) * (21)))), (0, .ref (jad G 25)), (1, .int (iI (m))), (2, .int (iI (n2)))]) C dX1_needOf_21 (by decide) rfl ?_
  refine J_lv [4, 5, 3, 2, 1, 0] rfl ?_
  exact l_need1 hG C S n0 n1 n2 m hk hd ha f0 f1 f2 hm0 R _ 0 0 rfl ⟨by omega, by rw [Int.zero_add]; rfl⟩
theorem need_in {S : jMem} (hk : cOK S) {n0 n1 n2 m : Int} (f0 : isFn S 0 n0) (f1 : isFn S 1 n1) (f2 : isFn S 2 n2) : 0 ≤ pneed (S 1 4) (S 2) (S 3) (S 4) n0 n1 n2 m ∧ pneed (S 1 4) (S 2) (S 3) (S 4) n0 n1 n2 m ≤ 8 * 64001 := by
  have hn := hk.1
  have hh := has_in hk.2.1 f0 f1 f2
  have := isum_in (f := fun b => bb (zbit m b) * pleast (S 2) (S 3) (S 4) n0 n1 n2 b) (B := 64001) (S 1 4 - 0).toNat 0 (fun j h1 h2 => ?_)
  · unfold pneed
    have e : (((S 1 4 - 0).toNat : Nat) : Int) * 64001 ≤ 8 * 64001 := by omega
    omega
  · obtain ⟨r, hr⟩ := isLeast_ex (S 2) (S 3) (S 4) n0 n1 n2 j
    try dsimp only
    rw [pleast_eq hr]
    have h3 : 0 ≤ r ∧ r ≤ 64001 := by
      refine ⟨?_, by have := hr.1; omega⟩
      rcases hr.2.2 with e | ⟨t, ht, e⟩
      · omega
      · rw [e]; exact (prod_in hk (by omega) ht.2.2 f0 f1 f2).1
    have hb := bb_in (zbit m j)
    have := mul_in hb h3
    omega
end
section
/-! sets as bits -/
theorem zbit_iff {m b : Int} (hm : 0 ≤ m) : zbit m b ↔ m.toNat.testBit b.toNat = true := by
  obtain ⟨x, rfl⟩ := Int.eq_ofNat_of_zero_le hm
  show ((x : Int) / 2 ^ b.toNat % 2 = 1) ↔ _
  generalize b.toNat = k
  rw [Nat.testBit_eq_decide_div_mod_eq]
  simp only [decide_eq_true_eq, Int.toNat_natCast]
  have e : ((x : Int) / 2 ^ k % 2) = ((x / 2 ^ k % 2 : Nat) : Int) := by simp
  constructor
  · intro h
    have h2 : ((x : Int) / 2 ^ k % 2) = 1 := h
    rw [e] at h2; omega
  · intro h
    show ((x : Int) / 2 ^ k % 2) = 1
    rw [e]; omega
theorem zor_nn (a b : Int) : 0 ≤ zor a b := Int.natCast_nonneg _
theorem zandn_nn (a b : Int) : 0 ≤ zandn a b := Int.natCast_nonneg _
theorem pow_toNat (k : Nat) : (1 * 2 ^ k : Int).toNat = 2 ^ k := by
  have : (1 * 2 ^ k : Int) = ((2 ^ k : Nat) : Int) := by simp
  rw [this]; rfl
theorem zbit_zor {m n j : Int} (hm : 0 ≤ m) (hn : 0 ≤ n) (hj : 0 ≤ j) : zbit (zor m (1 * 2 ^ n.toNat)) j ↔ zbit m j ∨ j = n := by
  rw [zbit_iff (zor_nn _ _), zbit_iff hm]
  unfold zor
  rw [Int.toNat_natCast, Nat.testBit_or, pow_toNat, Nat.testBit_two_pow]
  simp only [Bool.or_eq_true, decide_eq_true_eq]
  constructor
  · rintro (h | h)
    · exact Or.inl h
    · exact Or.inr (by omega)
  · rintro (h | h)
    · exact Or.inl h
    · exact Or.inr (by omega)
theorem zbit_zandn {m n j : Int} (hm : 0 ≤ m) (hn : 0 ≤ n) (hj : 0 ≤ j) : zbit (zandn m (1 * 2 ^ n.toNat)) j ↔ zbit m j ∧ j ≠ n := by
  rw [zbit_iff (zandn_nn _ _), zbit_iff hm]
  unfold zandn
  rw [Int.toNat_natCast, andn_bit, pow_toNat, Nat.testBit_two_pow]
  simp only [Bool.and_eq_true, Bool.not_eq_true', decide_eq_false_iff_not]
  constructor
  · rintro ⟨h1, h2⟩
    exact ⟨h1, by omega⟩
  · rintro ⟨h1, h2⟩
    exact ⟨h1, by omega⟩
theorem zandn_le {a b : Int} (ha : 0 ≤ a) : zandn a b ≤ a := by
  obtain ⟨x, rfl⟩ := Int.eq_ofNat_of_zero_le ha
  unfold zandn andn
  have e : x ^^^ (x &&& b.toNat) = x &&& (x ^^^ (x &&& b.toNat)) := by
    apply Nat.eq_of_testBit_eq
    intro i
    have := andn_bit x b.toNat i
    unfold andn at this
    rw [Nat.testBit_and, this]
    cases x.testBit i <;> cases b.toNat.testBit i <;> rfl
  have h1 : x ^^^ (x &&& b.toNat) ≤ x := by rw [e]; exact Nat.and_le_left
  rw [Int.toNat_natCast]
  exact_mod_cast h1
theorem zor_lt {a b : Int} {k : Nat} (ha : 0 ≤ a) (ha2 : a < 2 ^ k) (hb2 : b < 2 ^ k) : zor a b < 2 ^ k := by
  unfold zor
  have h1 : a.toNat < 2 ^ k := by
    have : ((a.toNat : Nat) : Int) < ((2 ^ k : Nat) : Int) := by rw [Int.toNat_of_nonneg ha]; simpa using ha2
    exact_mod_cast this
  have h2 : b.toNat < 2 ^ k := by
    by_cases hb : 0 ≤ b
    · have : ((b.toNat : Nat) : Int) < ((2 ^ k : Nat) : Int) := by rw [Int.toNat_of_nonneg hb]; simpa using hb2
      exact_mod_cast this
    · have : b.toNat = 0 := by omega
      rw [this]; exact Nat.two_pow_pos k
  have h3 : a.toNat ||| b.toNat < 2 ^ k := Nat.or_lt_two_pow h1 h2
  have : ((a.toNat ||| b.toNat : Nat) : Int) < ((2 ^ k : Nat) : Int) := by exact_mod_cast h3
  simpa using this
theorem zpow_lt {n : Int} {k : Nat} (h0 : 0 ≤ n) (h1 : n < k) : (1 : Int) ≤ 1 * 2 ^ n.toNat ∧ (1 * 2 ^ n.toNat : Int) < 2 ^ k := by
  have h2 : n.toNat < k := by omega
  have h3 : (2 : Nat) ^ n.toNat < 2 ^ k := Nat.pow_lt_pow_right (by decide) h2
  have h4 : 0 < (2 : Nat) ^ n.toNat := Nat.two_pow_pos _
  have e1 : (1 * 2 ^ n.toNat : Int) = ((2 ^ n.toNat : Nat) : Int) := by simp
  have e2 : (2 : Int) ^ k = ((2 ^ k : Nat) : Int) := by simp
  rw [e1, e2]
  constructor
  · exact_mod_cast h4
  · exact_mod_cast h3
end
section
/-- the reason: box after box goes without which it is proved yet -/
noncomputable def preason (P : Int → Prop) : Nat → Int → Int → Int
  | 0, _, left => left
  | k + 1, b, left => preason P k (b + 1) (@ite Int (P (zandn left (1 * 2 ^ b.toNat))) (Classical.propDecidable _) (zandn left (1 * 2 ^ b.toNat)) left)
theorem preason_t {P : Int → Prop} {b hi left : Int} (h : b < hi) (hp : P (zandn left (1 * 2 ^ b.toNat))) : preason P (hi - b).toNat b left = preason P (hi - (b + 1)).toNat (b + 1) (zandn left (1 * 2 ^ b.toNat)) := by
  have e : (hi - b).toNat = (hi - (b + 1)).toNat + 1 := by omega
  rw [e]
  exact congrArg (fun z => preason P (hi - (b + 1)).toNat (b + 1) z) (@if_pos _ (Classical.propDecidable _) hp _ _ _)
theorem preason_f {P : Int → Prop} {b hi left : Int} (h : b < hi) (hp : ¬ P (zandn left (1 * 2 ^ b.toNat))) : preason P (hi - b).toNat b left = preason P (hi - (b + 1)).toNat (b + 1) left := by
  have e : (hi - b).toNat = (hi - (b + 1)).toNat + 1 := by omega
  rw [e]
  exact congrArg (fun z => preason P (hi - (b + 1)).toNat (b + 1) z) (@if_neg _ (Classical.propDecidable _) hp _ _ _)
theorem preason_e {P : Int → Prop} {b hi left : Int} (h : hi ≤ b) : preason P (hi - b).toNat b left = left := by
  have e : (hi - b).toNat = 0 := by omega
  rw [e]; rfl
abbrev pprove (n : Int) (len sid tb : Int → Int) (n0 n1 n2 m : Int) : Prop := phas3 len n0 n1 n2 < pneed n len sid tb n0 n1 n2 m
abbrev pall (n : Int) : Int := 1 * 2 ^ n.toNat - 1
/-- function p gives each row at least as much of what it gives the length as n does -/
def pdom (S : jMem) (a p n : Int) : Prop := ∀ i, 0 ≤ i → i < S 29 (S 1 4) → pworth (S 2 a) n (S 28 (i * 3 + a)) * pworth (S 2 a) p (S 2 a) ≤ pworth (S 2 a) p (S 28 (i * 3 + a)) * pworth (S 2 a) n (S 2 a)
theorem row_at {S : jMem} (hk : cOK S) (h : dOK S) {i a : Int} (h0 : 0 ≤ i) (h1 : i < S 29 (S 1 4)) (ha : 0 ≤ a ∧ a < 3) : 0 ≤ S 28 (i * 3 + a) ∧ S 28 (i * 3 + a) ≤ S 2 a := by
  have r := row_len hk h h0 h1
  rcases (show a = 0 ∨ a = 1 ∨ a = 2 by omega) with rfl | rfl | rfl
  · exact r.1
  · exact r.2.1
  · exact r.2.2
theorem v_at {S : jMem} (h : dOK S) {a n x : Int} (ha : 0 ≤ a ∧ a < 3) (h1 : isFn S a n) (h2 : 0 ≤ x ∧ x ≤ S 2 a) : S 27 ((a * 21 + n) * 21 + x) = pworth (S 2 a) n x := by
  rcases (show a = 0 ∨ a = 1 ∨ a = 2 by omega) with rfl | rfl | rfl
  · exact h.1.1 n x h1.1 h1.2 h2.1 h2.2
  · exact h.1.2.1 n x h1.1 h1.2 h2.1 h2.2
  · exact h.1.2.2 n x h1.1 h1.2 h2.1 h2.2
theorem pall_in {n : Int} (h : 0 ≤ n ∧ n ≤ 8) : 0 ≤ pall n ∧ pall n ≤ 255 := by
  have := zpow_lt (n := n) (k := 9) h.1 (by omega)
  obtain ⟨x, rfl⟩ := Int.eq_ofNat_of_zero_le h.1
  have hz : ∀ k, k < 9 → (0 : Int) ≤ 1 * 2 ^ k - 1 ∧ (1 * 2 ^ k - 1 : Int) ≤ 255 := by decide
  exact hz x (by omega)
/-- the functions that are tried, after n of them: those that none ahead of them, tried, is as good as -/
def idI (S0 : jMem) (a n : Int) (S : jMem) : Prop := only 31 S0 S ∧ (∀ j, j ≠ a → S 31 j = S0 31 j) ∧ (0 ≤ S 31 a ∧ S 31 a < 2 ^ 21) ∧ (∀ j, 0 ≤ j → n ≤ j → ¬ zbit (S 31 a) j) ∧ ∀ j, 0 ≤ j → j < n → (zbit (S 31 a) j ↔ ¬ ∃ p, (0 ≤ p ∧ p < j) ∧ zbit (S 31 a) p ∧ pdom S0 a p j)
theorem idI.set {S0 S : jMem} {a n : Int} (h : idI S0 a n S) (hn : 0 ≤ n ∧ n < 21) (hq : ¬ ∃ p, (0 ≤ p ∧ p < n) ∧ zbit (S 31 a) p ∧ pdom S0 a p n) : idI S0 a (n + 1) (up2 S 31 a (zor (S 31 a) (1 * 2 ^ n.toNat))) := by
  obtain ⟨h1, h2, h3, h4, h5⟩ := h
  have zb : ∀ j, 0 ≤ j → (zbit (up2 S 31 a (zor (S 31 a) (1 * 2 ^ n.toNat)) 31 a) j ↔ zbit (S 31 a) j ∨ j = n) := fun j hj => by rw [up2_eq]; exact zbit_zor h3.1 hn.1 hj
  have hp := zpow_lt (n := n) (k := 21) hn.1 (by omega)
  refine ⟨h1.up _ _, fun j hj => by rw [up2_a _ _ _ hj]; exact h2 j hj, ?_, fun j hj hj2 => ?_, fun j hj hj2 => ?_⟩
  · rw [up2_eq]; exact ⟨zor_nn _ _, zor_lt h3.1 h3.2 hp.2⟩
  · rw [zb j hj]
    rintro (hc | hc)
    · exact h4 j hj (by omega) hc
    · omega
  · rw [zb j hj]
    have ex : (∃ p, (0 ≤ p ∧ p < j) ∧ zbit (up2 S 31 a (zor (S 31 a) (1 * 2 ^ n.toNat)) 31 a) p ∧ pdom S0 a p j) ↔ ∃ p, (0 ≤ p ∧ p < j) ∧ zbit (S 31 a) p ∧ pdom S0 a p j := by
      constructor
      · rintro ⟨p, p1, p2, p3⟩
        rcases (zb p p1.1).mp p2 with hc | hc
        · exact ⟨p, p1, hc, p3⟩
        · omega
      · rintro ⟨p, p1, p2, p3⟩
        exact ⟨p, p1, (zb p p1.1).mpr (Or.inl p2), p3⟩
    rw [ex]
    by_cases e : j = n
    · subst e
      exact ⟨fun _ => hq, fun _ => Or.inr rfl⟩
    · rw [← h5 j hj (by omega)]
      exact ⟨fun hc => hc.elim id (fun hc => absurd hc e), Or.inl⟩
theorem idI.skip {S0 S : jMem} {a n : Int} (h : idI S0 a n S) (hn : 0 ≤ n) (hq : ∃ p, (0 ≤ p ∧ p < n) ∧ zbit (S 31 a) p ∧ pdom S0 a p n) : idI S0 a (n + 1) S := by
  obtain ⟨h1, h2, h3, h4, h5⟩ := h
  refine ⟨h1, h2, h3, fun j hj hj2 => h4 j hj (by omega), fun j hj hj2 => ?_⟩
  by_cases e : j = n
  · subst e
    exact ⟨fun hc => absurd hc (h4 j hj (Int.le_refl _)), fun hc => absurd hq hc⟩
  · exact h5 j hj (by omega)
/-- what leaveOutIdle leaves: each function has one that is tried, as good as it, at it or ahead of it -/
def trOK (S : jMem) (a : Int) : Prop := (0 ≤ S 31 a ∧ S 31 a < 2 ^ 21) ∧ ∀ n, isFn S a n → zbit (S 31 a) n ∨ ∃ p, (0 ≤ p ∧ p < n) ∧ zbit (S 31 a) p ∧ pdom S a p n
theorem zbit_0 (j : Int) : ¬ zbit 0 j := by
  intro h
  have h2 : (0 : Int) / 2 ^ j.toNat % 2 = 1 := h
  rw [Int.zero_ediv] at h2
  omega
end
section
theorem c_proves {G : jG} (hG : cG G) (S : jMem) (n0 n1 n2 m : Int) (hk : cOK S) (hd : dOK S) (ha : aOK S n0 n1) (f0 : isFn S 0 n0) (f1 : isFn S 1 n1) (f2 : isFn S 2 n2) (hm0 : 0 ≤ m ∧ m ≤ 255) : jM G yX1_proves cX1_proves 3 (some .boolean) 2 49 [.ref (jad G 25), .int (iI (m)), .int (iI (n2))] S (jPi (fun v S' => bb (pprove (S 1 4) (S 2) (S 3) (S 4) n0 n1 n2 m) = v ∧ S = S')) := by
  refine jM.of (by decide) (Nat.le_of_ble_eq_true rfl) (fun E C R => ?_)
  show J E G 0 [(0, .ref (jad G 25)), (1, .int (iI (m))), (2, .int (iI (n2)))] [] _
  have l0 := hk.2.1 0 (by omega) (by omega)
  have l1 := hk.2.1 1 (by omega) (by omega)
  have l2 := hk.2.1 2 (by omega) (by omega)
  have hh := has_in hk.2.1 f0 f1 f2
  have hq := need_in (m := m) hk f0 f1 f2
  refine J_aload_n C 0 dX1_proves_0 rfl ?_
  refine J_iload_n C 1 dX1_proves_1 rfl ?_
  refine J_iload_n C 2 dX1_proves_2 rfl ?_
  refine J_callV (k := 25) (rest := []) C (c_needOf hG S n0 n1 (n2) (m) hk hd ha f0 f1 f2 (by omega)) kc_X1_needOf kl_X1_84 (by rw [hG.2]; decide) (by rw [hG.1]; rfl) rfl dX1_proves_3 rfl rfl (by decide) (Nat.le_of_ble_eq_true rfl) (J_ki (fun v1 S1 h1 => ?_))
  obtain ⟨rfl, rfl⟩ := h1
  refine J_aload_n C 0 dX1_proves_6 rfl ?_
  refine J_iload_n C 2 dX1_proves_7 rfl ?_
  refine J_callV (k := 25) (rest := [.int (iI (pneed (S 1 4) (S 2) (S 3) (S 4) n0 n1 (n2) (m)))]) C (c_binHas hG S (n2) hk (by omega)) kc_X1_binHas kl_X1_76 (by rw [hG.2]; decide) (by rw [hG.1]; rfl) rfl dX1_proves_8 rfl rfl (by decide) (Nat.le_of_ble_eq_true rfl) (J_ki (fun v2 S2 h2 => ?_))
  obtain ⟨rfl, rfl⟩ := h2
  refine J_top (b := phas3 (S 2) n0 n1 n2) (by rw [show (2 : Int) * 21 + n2 = 42 + n2 by omega, ha.1, v2 hd.1.2.2 f2 (by omega)]; rfl) ?_
  refine J_icmp_le C 18 dX1_proves_11 (by decide) (by omega) (by omega) (fun h3 => ?_) (fun h3 => ?_)
  · refine J_iconst C dX1_proves_18 ?_
    exact J_zret R C dX1_proves_19 (by first | exact Or.inl rfl | exact Or.inr rfl | omega) (jPi.mk ⟨by first | exact bb_t (by omega) | exact bb_f (by omega), rfl⟩)
  · refine J_iconst C dX1_proves_14 ?_
    refine J_goto C 19 dX1_proves_15 (by decide) ?_
    exact J_zret R C dX1_proves_19 (by first | exact Or.inl rfl | exact Or.inr rfl | omega) (jPi.mk ⟨by first | exact bb_t (by omega) | exact bb_f (by omega), rfl⟩)
theorem l_reason {E : jEnv} {G : jG} (hG : cG G) (C : jX E G cX1_reason 5 RX1 3 71) (S : jMem) (n0 n1 n2 : Int) (hk : cOK S) (hd : dOK S) (ha : aOK S n0 n1) (f0 : isFn S 0 n0) (f1 : isFn S 1 n1) (f2 : isFn S 2 n2) (R : jR E G (some .int) (jPi (fun v S' => preason (pprove (S 1 4) (S 2) (S 3) (S 4) n0 n1 n2) (S 1 4 - 0).toNat 0 (pall (S 1 4)) = v ∧ S = S'))) : ∀ (mm : Nat) (b left : Int), mm = (S 1 4 - b).toNat → ((0 ≤ b ∧ b ≤ S 1 4) ∧ (0 ≤ left ∧ left ≤ 255) ∧ preason (pprove (S 1 4) (S 2) (S 3) (S 4) n0 n1 n2) (S 1 4 - b).toNat b left = preason (pprove (S 1 4) (S 2) (S 3) (S 4) n0 n1 n2) (S 1 4 - 0).toNat 0 (pall (S 1 4))) → J E G 10 [(0, .ref (jad G 25)), (1, .int (iI (n2))), (2, .int (iI (left))), (3, .int (iI (b)))] [] S := by
  intro mm
  induction mm using Nat.strongRecOn with | ind mm ih => ?_
  intro b left hm hj
  obtain ⟨hb, hl, hj⟩ := hj
  have hn := hk.1
  refine J_iload_n C 3 dX1_reason_10 rfl ?_
  refine J_aload_n C 0 dX1_reason_11 rfl ?_
  refine g_X1_30 hG C dX1_reason_12 ?_
  refine g_X1_54 hG C dX1_reason_15 ?_
  refine J_icmp_ge C 49 dX1_reason_18 (by decide) (by omega) (by omega) (fun h1 => ?_) (fun h1 => ?_)
  · refine J_iload_n C 2 dX1_reason_49 rfl ?_
    exact J_iret R C dX1_reason_50 (jPi.mk ⟨by rw [preason_e (by omega)] at hj; exact hj.symm, rfl⟩)
  · have hp := zpow_in hb.1 (by omega : b < 8)
    have z0 := zandn_nn left (1 * 2 ^ b.toNat)
    have z1 := zandn_le (b := 1 * 2 ^ b.toNat) hl.1
    refine J_iload_n C 2 dX1_reason_21 rfl ?_
    refine J_iconst C dX1_reason_22 ?_
    refine J_iload_n C 3 dX1_reason_23 rfl ?_
    refine J_ishl C dX1_reason_24 (by omega) (by omega) ?_
    refine J_iconst C dX1_reason_25 ?_
    refine J_ixor C (-((1) * 2 ^ (b).toNat) - 1) dX1_reason_26 (iI_not _) ?_
    refine J_iand C (zandn (left) ((1) * 2 ^ (b).toNat)) dX1_reason_27 (iI_zandn (by omega) (by omega) (by omega) (by omega)) ?_
    refine J_istore (lv' := [(4, .int (iI (zandn (left) ((1) * 2 ^ (b).toNat)))), (0, .ref (jad G 25)), (1, .int (iI (n2))), (2, .int (iI (left))), (3, .int (iI (b)))]) C dX1_reason_28 (by decide) rfl ?_
    refine J_aload_n C 1 dX1_reason_30 rfl ?_
    refine J_iload C 0 dX1_reason_31 rfl ?_
    refine J_iload_n C 2 dX1_reason_33 rfl ?_
    refine J_callV (k := 25) (rest := []) C (c_proves hG S n0 n1 (n2) (zandn (left) ((1) * 2 ^ (b).toNat)) hk hd ha f0 f1 f2 (by omega)) kc_X1_proves kl_X1_111 (by rw [hG.2]; decide) (by rw [hG.1]; rfl) rfl dX1_reason_34 rfl rfl (by decide) (Nat.le_of_ble_eq_true rfl) (J_ki (fun v2 S2 h2 => ?_))
    obtain ⟨rfl, rfl⟩ := h2
    refine J_if_eq_b C 43 dX1_reason_37 (by decide) (fun h3 => ?_) (fun h3 => ?_)
    · refine J_iinc (lv' := [(3, .int (iI (b + 1))), (4, .int (iI (zandn (left) ((1) * 2 ^ (b).toNat)))), (0, .ref (jad G 25)), (1, .int (iI (n2))), (2, .int (iI (left)))]) C 4 dX1_reason_43 rfl (by decide) rfl ?_
      refine J_goto C 10 dX1_reason_46 (by decide) ?_
      rw [preason_f (by omega) (by assumption)] at hj
      refine J_lv [2, 3, 4, 0] rfl ?_
      exact ih _ (by omega) (b + 1) _ rfl ⟨by omega, by omega, hj⟩
    · refine J_iload C 0 dX1_reason_40 rfl ?_
      refine J_istore_n (lv' := [(2, .int (iI (zandn (left) ((1) * 2 ^ (b).toNat)))), (4, .int (iI (zandn (left) ((1) * 2 ^ (b).toNat)))), (0, .ref (jad G 25)), (1, .int (iI (n2))), (3, .int (iI (b)))]) C dX1_reason_42 (by decide) rfl ?_
      refine J_iinc (lv' := [(3, .int (iI (b + 1))), (2, .int (iI (zandn (left) ((1) * 2 ^ (b).toNat)))), (4, .int (iI (zandn (left) ((1) * 2 ^ (b).toNat)))), (0, .ref (jad G 25)), (1, .int (iI (n2)))]) C 4 dX1_reason_43 rfl (by decide) rfl ?_
      refine J_goto C 10 dX1_reason_46 (by decide) ?_
      rw [preason_t (by omega) (by assumption)] at hj
      refine J_lv [3, 4, 1, 0] rfl ?_
      exact ih _ (by omega) (b + 1) _ rfl ⟨by omega, by omega, hj⟩
theorem c_reason {G : jG} (hG : cG G) (S : jMem) (n0 n1 n2 : Int) (hk : cOK S) (hd : dOK S) (ha : aOK S n0 n1) (f0 : isFn S 0 n0) (f1 : isFn S 1 n1) (f2 : isFn S 2 n2) : jM G yX1_reason cX1_reason 5 (some .int) 3 71 [.ref (jad G 25), .int (iI (n2))] S (jPi (fun v S' => preason (pprove (S 1 4) (S 2) (S 3) (S 4) n0 n1 n2) (S 1 4 - 0).toNat 0 (pall (S 1 4)) = v ∧ S = S')) := by
  refine jM.of (by decide) (Nat.le_of_ble_eq_true rfl) (fun E C R => ?_)
  show J E G 0 [(0, .ref (jad G 25)), (1, .int (iI (n2)))] [] _
  have hn := hk.1
  refine J_aload_n C 0 dX1_reason_0 rfl ?_
  refine g_X1_30 hG C dX1_reason_1 ?_
  refine J_callV (k := 1) (rest := []) C (c_allBoxes hG S hk.1) kc_X4_allBoxes kl_X1_107 (by rw [hG.2]; decide) (by rw [hG.1]; rfl) rfl dX1_reason_4 rfl rfl (by decide) (Nat.le_of_ble_eq_true rfl) (J_ki (fun v1 S1 h1 => ?_))
  obtain ⟨rfl, rfl⟩ := h1
  refine J_istore_n (lv' := [(2, .int (iI (1 * 2 ^ (S 1 4).toNat - 1))), (0, .ref (jad G 25)), (1, .int (iI (n2)))]) C dX1_reason_7 (by decide) rfl ?_
  refine J_iconst C dX1_reason_8 ?_
  refine J_istore_n (lv' := [(3, .int (iI (0))), (2, .int (iI (1 * 2 ^ (S 1 4).toNat - 1))), (0, .ref (jad G 25)), (1, .int (iI (n2)))]) C dX1_reason_9 (by decide) rfl ?_
  refine J_lv [2, 3, 1, 0] rfl ?_
  exact l_reason hG C S n0 n1 n2 hk hd ha f0 f1 f2 R _ 0 _ rfl ⟨by omega, pall_in hn, rfl⟩
theorem l_gives {E : jEnv} {G : jG} (hG : cG G) (C : jX E G cX1_givesNoLess 9 RX1 0 0) (S : jMem) (a p n : Int) (hk : cOK S) (hd : dOK S) (ha : 0 ≤ a ∧ a < 3) (fp : isFn S a p) (fn : isFn S a n) (R : jR E G (some .boolean) (jPi (fun v S' => bb (pdom S a p n) = v ∧ S = S'))) : ∀ (mm : Nat) (i : Int), mm = (S 29 (S 1 4) - i).toNat → ((0 ≤ i ∧ i ≤ S 29 (S 1 4)) ∧ ∀ j, 0 ≤ j → j < i → pworth (S 2 a) n (S 28 (j * 3 + a)) * pworth (S 2 a) p (S 2 a) ≤ pworth (S 2 a) p (S 28 (j * 3 + a)) * pworth (S 2 a) n (S 2 a)) → J E G 36 [(0, .ref (jad G 25)), (1, .int (iI (a))), (4, .int (iI ((a * 21 + p) * 21))), (5, .int (iI ((a * 21 + n) * 21))), (6, .int (iI (S 2 (a)))), (7, .int (iI (i)))] [] S := by
  intro mm
  induction mm using Nat.strongRecOn with | ind mm ih => ?_
  intro i hm hj
  obtain ⟨hi, hj⟩ := hj
  have hn := hk.1
  have q := first_in hk hd hn.1 (Int.le_refl _)
  have hL := hk.2.1 a (by omega) (by omega)
  refine J_iload C 5 dX1_givesNoLess_36 rfl ?_
  refine J_aload_n C 0 dX1_givesNoLess_38 rfl ?_
  refine g_X1_21 hG C dX1_givesNoLess_39 ?_
  refine J_aload_n C 0 dX1_givesNoLess_42 rfl ?_
  refine g_X1_30 hG C dX1_givesNoLess_43 ?_
  refine g_X1_54 hG C dX1_givesNoLess_46 ?_
  refine cald hG C 29 9 (by decide) dX1_givesNoLess_49 (by omega) (by omega) ?_
  refine J_icmp_ge C 119 dX1_givesNoLess_50 (by decide) (by omega) (by omega) (fun h1 => ?_) (fun h1 => ?_)
  · refine J_iconst C dX1_givesNoLess_119 ?_
    exact J_zret R C dX1_givesNoLess_120 (Or.inr rfl) (jPi.mk ⟨bb_t (fun j h1 h2 => hj j h1 (by omega)), rfl⟩)
  · have r := row_at hk hd (i := i) (a := a) (by omega) (by omega) ha
    have a1 := v_at hd ha fp r
    have a2 := v_at hd ha fn r
    have a3 := v_at hd ha fp (x := S 2 a) (by omega)
    have a4 := v_at hd ha fn (x := S 2 a) (by omega)
    have w1 := pworth_in hL fp r
    have w2 := pworth_in hL fn r
    have b1 := mul_in (A := 40) (B := 40) (x := pworth (S 2 a) p (S 28 (i * 3 + a))) (y := pworth (S 2 a) n (S 2 a)) ⟨w1.1, by omega⟩ ⟨by omega, w2.2.2.2⟩
    have b2 := mul_in (A := 40) (B := 40) (x := pworth (S 2 a) n (S 28 (i * 3 + a))) (y := pworth (S 2 a) p (S 2 a)) ⟨w2.1, by omega⟩ ⟨by omega, w1.2.2.2⟩
    refine J_aload_n C 0 dX1_givesNoLess_53 rfl ?_
    refine g_X1_18 hG C dX1_givesNoLess_54 ?_
    refine J_iload C 5 dX1_givesNoLess_57 rfl ?_
    refine J_iconst C dX1_givesNoLess_59 ?_
    refine J_imul C dX1_givesNoLess_60 ?_
    refine J_iload_n C 1 dX1_givesNoLess_61 rfl ?_
    refine J_iadd C dX1_givesNoLess_62 ?_
    refine cald hG C 28 144 (by decide) dX1_givesNoLess_63 (by omega) (by omega) ?_
    refine J_istore (lv' := [(8, .int (iI (S 28 (((i) * (3)) + (a))))), (0, .ref (jad G 25)), (1, .int (iI (a))), (4, .int (iI ((a * 21 + p) * 21))), (5, .int (iI ((a * 21 + n) * 21))), (6, .int (iI (S 2 (a)))), (7, .int (iI (i)))]) C dX1_givesNoLess_64 (by decide) rfl ?_
    refine J_aload_n C 1 dX1_givesNoLess_66 rfl ?_
    refine g_X1_15 hG C dX1_givesNoLess_67 ?_
    refine J_iload C 3 dX1_givesNoLess_70 rfl ?_
    refine J_iload C 0 dX1_givesNoLess_72 rfl ?_
    refine J_iadd C dX1_givesNoLess_74 ?_
    refine cald hG C 27 1323 (by decide) dX1_givesNoLess_75 (by omega) (by omega) ?_
    refine J_aload_n C 1 dX1_givesNoLess_76 rfl ?_
    refine g_X1_15 hG C dX1_givesNoLess_77 ?_
    refine J_iload C 4 dX1_givesNoLess_80 rfl ?_
    refine J_iload C 5 dX1_givesNoLess_82 rfl ?_
    refine J_iadd C dX1_givesNoLess_84 ?_
    refine cald hG C 27 1323 (by decide) dX1_givesNoLess_85 (by omega) (by omega) ?_
    refine J_imul C dX1_givesNoLess_86 ?_
    refine J_aload_n C 1 dX1_givesNoLess_87 rfl ?_
    refine g_X1_15 hG C dX1_givesNoLess_88 ?_
    refine J_iload C 4 dX1_givesNoLess_91 rfl ?_
    refine J_iload C 0 dX1_givesNoLess_93 rfl ?_
    refine J_iadd C dX1_givesNoLess_95 ?_
    refine cald hG C 27 1323 (by decide) dX1_givesNoLess_96 (by omega) (by omega) ?_
    refine J_aload_n C 1 dX1_givesNoLess_97 rfl ?_
    refine g_X1_15 hG C dX1_givesNoLess_98 ?_
    refine J_iload C 3 dX1_givesNoLess_101 rfl ?_
    refine J_iload C 5 dX1_givesNoLess_103 rfl ?_
    refine J_iadd C dX1_givesNoLess_105 ?_
    refine cald hG C 27 1323 (by decide) dX1_givesNoLess_106 (by omega) (by omega) ?_
    refine J_imul C dX1_givesNoLess_107 ?_
    rw [a1, a2, a3, a4]
    refine J_icmp_ge C 113 dX1_givesNoLess_108 (by decide) (by omega) (by omega) (fun h2 => ?_) (fun h2 => ?_)
    · refine J_iinc (lv' := [(7, .int (iI (i + 1))), (8, .int (iI (S 28 (((i) * (3)) + (a))))), (0, .ref (jad G 25)), (1, .int (iI (a))), (4, .int (iI ((a * 21 + p) * 21))), (5, .int (iI ((a * 21 + n) * 21))), (6, .int (iI (S 2 (a))))]) C 6 dX1_givesNoLess_113 rfl (by decide) rfl ?_
      refine J_goto C 36 dX1_givesNoLess_116 (by decide) ?_
      refine J_lv [2, 3, 4, 5, 6, 0] rfl ?_
      refine ih _ (by omega) (i + 1) rfl ⟨by omega, fun j h1 h2 => ?_⟩
      by_cases e : j = i
      · subst e; assumption
      · exact hj j h1 (by omega)
    · refine J_iconst C dX1_givesNoLess_111 ?_
      exact J_zret R C dX1_givesNoLess_112 (Or.inl rfl) (jPi.mk ⟨bb_f (fun h => by have := h i hi.1 (by omega); omega), rfl⟩)
theorem c_gives {G : jG} (hG : cG G) (S : jMem) (a p n : Int) (hk : cOK S) (hd : dOK S) (ha : 0 ≤ a ∧ a < 3) (fp : isFn S a p) (fn : isFn S a n) : jM G yX1_givesNoLess cX1_givesNoLess 9 (some .boolean) 0 0 [.ref (jad G 25), .int (iI (a)), .int (iI (p)), .int (iI (n))] S (jPi (fun v S' => bb (pdom S a p n) = v ∧ S = S')) := by
  refine jM.of (by decide) (Nat.le_of_ble_eq_true rfl) (fun E C R => ?_)
  show J E G 0 [(0, .ref (jad G 25)), (1, .int (iI (a))), (2, .int (iI (p))), (3, .int (iI (n)))] [] _
  refine J_iload_n C 1 dX1_givesNoLess_0 rfl ?_
  refine J_bipush C dX1_givesNoLess_1 (by decide) ?_
  refine J_imul C dX1_givesNoLess_3 ?_
  refine J_iload_n C 2 dX1_givesNoLess_4 rfl ?_
  refine J_iadd C dX1_givesNoLess_5 ?_
  refine J_bipush C dX1_givesNoLess_6 (by decide) ?_
  refine J_imul C dX1_givesNoLess_8 ?_
  refine J_istore (lv' := [(4, .int (iI ((((a) * (21)) + (p)) * (21)))), (0, .ref (jad G 25)), (1, .int (iI (a))), (2, .int (iI (p))), (3, .int (iI (n)))]) C dX1_givesNoLess_9 (by decide) rfl ?_
  refine J_iload_n C 2 dX1_givesNoLess_11 rfl ?_
  refine J_bipush C dX1_givesNoLess_12 (by decide) ?_
  refine J_imul C dX1_givesNoLess_14 ?_
  refine J_iload_n C 4 dX1_givesNoLess_15 rfl ?_
  refine J_iadd C dX1_givesNoLess_16 ?_
  refine J_bipush C dX1_givesNoLess_17 (by decide) ?_
  refine J_imul C dX1_givesNoLess_19 ?_
  refine J_istore (lv' := [(5, .int (iI ((((a) * (21)) + (n)) * (21)))), (4, .int (iI ((((a) * (21)) + (p)) * (21)))), (0, .ref (jad G 25)), (1, .int (iI (a))), (2, .int (iI (p))), (3, .int (iI (n)))]) C dX1_givesNoLess_20 (by decide) rfl ?_
  refine J_aload_n C 2 dX1_givesNoLess_22 rfl ?_
  refine g_X1_30 hG C dX1_givesNoLess_23 ?_
  refine g_X1_41 hG C dX1_givesNoLess_26 ?_
  refine J_iload_n C 3 dX1_givesNoLess_29 rfl ?_
  refine cald hG C 2 3 (by decide) dX1_givesNoLess_30 (by omega) (by omega) ?_
  have m1 := hk.2.1 (a) (by omega) (by omega)
  refine J_istore (lv' := [(6, .int (iI (S 2 (a)))), (5, .int (iI ((((a) * (21)) + (n)) * (21)))), (4, .int (iI ((((a) * (21)) + (p)) * (21)))), (0, .ref (jad G 25)), (1, .int (iI (a))), (2, .int (iI (p))), (3, .int (iI (n)))]) C dX1_givesNoLess_31 (by decide) rfl ?_
  refine J_iconst C dX1_givesNoLess_33 ?_
  refine J_istore (lv' := [(7, .int (iI (0))), (6, .int (iI (S 2 (a)))), (5, .int (iI ((((a) * (21)) + (n)) * (21)))), (4, .int (iI ((((a) * (21)) + (p)) * (21)))), (0, .ref (jad G 25)), (1, .int (iI (a))), (2, .int (iI (p))), (3, .int (iI (n)))]) C dX1_givesNoLess_34 (by decide) rfl ?_
  refine J_lv [4, 5, 3, 2, 1, 0] rfl ?_
  exact l_gives hG C S a p n hk hd ha fp fn R _ 0 rfl ⟨⟨by omega, (first_in hk hd hk.1.1 (Int.le_refl _)).1⟩, fun j h1 h2 => by omega⟩
end
section
theorem isum_mul_le {f g : Int → Int} {A B : Int} : ∀ (n : Nat) (i : Int), (∀ j, i ≤ j → j < i + n → B * f j ≤ A * g j) → B * isum f i n ≤ A * isum g i n
  | 0, _, _ => by simp [isum]
  | n + 1, i, h => by
    have h1 := h i (by omega) (by omega)
    have h2 := isum_mul_le n (i + 1) (fun j a b => h j (by omega) (by omega))
    show B * (f i + isum f (i + 1) n) ≤ A * (g i + isum g (i + 1) n)
    rw [Int.mul_add, Int.mul_add]
    omega
theorem isum_ge {f : Int → Int} : ∀ (n : Nat) (i k : Int), (∀ j, i ≤ j → j < i + n → 0 ≤ f j) → i ≤ k → k < i + n → f k ≤ isum f i n
  | 0, _, _, _, h1, h2 => by omega
  | n + 1, i, k, h, h1, h2 => by
    show f k ≤ f i + isum f (i + 1) n
    have h3 := h i (by omega) (by omega)
    by_cases e : k = i
    · subst e
      have := (isum_nn n (k + 1) (fun j a b => h j (by omega) (by omega)))
      omega
    · have := isum_ge n (i + 1) k (fun j a b => h j (by omega) (by omega)) (by omega) (by omega)
      omega
where isum_nn {f : Int → Int} : ∀ (n : Nat) (i : Int), (∀ j, i ≤ j → j < i + n → 0 ≤ f j) → 0 ≤ isum f i n
  | 0, _, _ => by simp [isum]
  | n + 1, i, h => by
    have h1 := h i (by omega) (by omega)
    have h2 := isum_nn n (i + 1) (fun j a b => h j (by omega) (by omega))
    show 0 ≤ f i + isum f (i + 1) n
    omega
theorem least_nn {n : Int} {len sid tb wt : Int → Int} (hk : sOK n len sid tb wt) {n0 n1 n2 b : Int} (hb : 0 ≤ b ∧ b < 8) (h0 : 0 ≤ n0 ∧ n0 ≤ len 0 / 2 * 2) (h1 : 0 ≤ n1 ∧ n1 ≤ len 1 / 2 * 2) (h2 : 0 ≤ n2 ∧ n2 ≤ len 2 / 2 * 2) : 0 ≤ pleast len sid tb n0 n1 n2 b := by
  obtain ⟨r, hr⟩ := isLeast_ex len sid tb n0 n1 n2 b
  rw [pleast_eq hr]
  have hh := has_in hk.2.1 h0 h1 h2
  rcases hr.2.2 with e | ⟨t, ht, e⟩
  · omega
  · rw [e]; exact (prod_in hk hb ht.2.2 h0 h1 h2).1
/-- what proves, with functions that give each turn no more of what they give the bin, proves with the others too -/
theorem prove_of {n : Int} {len sid tb wt : Int → Int} (hk : sOK n len sid tb wt) {n0 n1 n2 p0 p1 p2 A B m : Int} (h0 : 0 ≤ n0 ∧ n0 ≤ len 0 / 2 * 2) (h1 : 0 ≤ n1 ∧ n1 ≤ len 1 / 2 * 2) (h2 : 0 ≤ n2 ∧ n2 ≤ len 2 / 2 * 2) (q0 : 0 ≤ p0 ∧ p0 ≤ len 0 / 2 * 2) (q1 : 0 ≤ p1 ∧ p1 ≤ len 1 / 2 * 2) (q2 : 0 ≤ p2 ∧ p2 ≤ len 2 / 2 * 2)
    (hA : 0 < A) (hB : 0 < B) (hh : A * phas3 len p0 p1 p2 = B * phas3 len n0 n1 n2) (hp : ∀ b t, 0 ≤ b → b < n → pturn len sid tb b t → B * pprod len sid n0 n1 n2 b t ≤ A * pprod len sid p0 p1 p2 b t) (h : pprove n len sid tb n0 n1 n2 m) : pprove n len sid tb p0 p1 p2 m := by
  have hn := hk.1
  have hP := has_in hk.2.1 q0 q1 q2
  by_cases c : ∃ b, (0 ≤ b ∧ b < n) ∧ zbit m b ∧ ¬ ∃ t, pturn len sid tb b t
  · obtain ⟨b, hb, hz, ht⟩ := c
    obtain ⟨r, hr⟩ := isLeast_ex len sid tb p0 p1 p2 b
    have e : r = phas3 len p0 p1 p2 + 1 := by
      rcases hr.2.2 with e | ⟨t, h3, e⟩
      · exact e
      · exact absurd ⟨t, h3⟩ ht
    have := isum_ge (f := fun b => bb (zbit m b) * pleast len sid tb p0 p1 p2 b) (n - 0).toNat 0 b (fun j a1 a2 => Int.mul_nonneg (bb_in _).1 (least_nn hk (by omega) q0 q1 q2)) hb.1 (by omega)
    try dsimp only at this
    rw [bb_mul_t hz, pleast_eq hr, e] at this
    show phas3 len p0 p1 p2 < pneed n len sid tb p0 p1 p2 m
    unfold pneed
    omega
  · have key := isum_mul_le (f := fun b => bb (zbit m b) * pleast len sid tb n0 n1 n2 b) (g := fun b => bb (zbit m b) * pleast len sid tb p0 p1 p2 b) (A := A) (B := B) (n - 0).toNat 0 (fun j a1 a2 => ?_)
    · have h' : phas3 len n0 n1 n2 < pneed n len sid tb n0 n1 n2 m := h
      have k2 : B * pneed n len sid tb n0 n1 n2 m ≤ A * pneed n len sid tb p0 p1 p2 m := key
      have k3 : B * (phas3 len n0 n1 n2 + 1) ≤ B * pneed n len sid tb n0 n1 n2 m := Int.mul_le_mul_of_nonneg_left (by omega) (by omega)
      rw [Int.mul_add, Int.mul_one] at k3
      have k4 : A * phas3 len p0 p1 p2 < A * pneed n len sid tb p0 p1 p2 m := by omega
      exact Int.lt_of_mul_lt_mul_left k4 (by omega)
    · try dsimp only
      by_cases hz : zbit m j
      · rw [bb_mul_t hz, bb_mul_t hz]
        have ht : ∃ t, pturn len sid tb j t := Classical.not_not.mp (fun hc => c ⟨j, by omega, hz, hc⟩)
        obtain ⟨r, hr⟩ := isLeast_ex len sid tb p0 p1 p2 j
        obtain ⟨w, hw⟩ := isLeast_ex len sid tb n0 n1 n2 j
        rw [pleast_eq hr, pleast_eq hw]
        have e : ∃ t, pturn len sid tb j t ∧ r = pprod len sid p0 p1 p2 j t := by
          rcases hr.2.2 with e | e
          · obtain ⟨t, h3⟩ := ht
            have a3 := hr.2.1 t h3
            have a4 := (prod_in hk (by omega) h3.2.2 q0 q1 q2).2
            omega
          · exact e
        obtain ⟨t, h3, e⟩ := e
        rw [e]
        have a3 := hw.2.1 t h3
        have a4 := hp j t a1 (by omega) h3
        have a5 : B * w ≤ B * pprod len sid n0 n1 n2 j t := Int.mul_le_mul_of_nonneg_left a3 (by omega)
        omega
      · rw [bb_mul_f hz, bb_mul_f hz]; omega
/-- of a turn that a box has and that fits: what pdom says -/
theorem pdom_turn {S : jMem} (hk : cOK S) (hd : dOK S) {a p n b t : Int} (ha : 0 ≤ a ∧ a < 3) (h : pdom S a p n) (hb : 0 ≤ b ∧ b < S 1 4) (ht : pturn (S 2) (S 3) (S 4) b t) : pworth (S 2 a) n (pext (S 3) b t a) * pworth (S 2 a) p (S 2 a) ≤ pworth (S 2 a) p (pext (S 3) b t a) * pworth (S 2 a) n (S 2 a) := by
  obtain ⟨u, u1, u2, u3⟩ := pcounts_of _ t rfl ht
  obtain ⟨i, i1, i2⟩ := (hd.2.2 b hb.1 hb.2).2.2 u (by omega) (by omega) u2
  have f0 := hd.2.1 b hb.1 (by omega)
  have fl := first_le hd _ (b + 1) (S 1 4) rfl (by omega) (by omega) (Int.le_refl _)
  have q := h i (by omega) (by omega)
  have e : S 28 (i * 3 + a) = pext (S 3) b t a := by
    rcases (show a = 0 ∨ a = 1 ∨ a = 2 by omega) with rfl | rfl | rfl
    · exact i2.1.trans u3.1
    · exact i2.2.1.trans u3.2.1
    · exact i2.2.2.trans u3.2.2
  rw [e] at q
  exact q
theorem dom0 {S : jMem} (hk : cOK S) (hd : dOK S) {p n0 n1 n2 m : Int} (h : pdom S 0 p n0) (f0 : isFn S 0 n0) (fp : isFn S 0 p) (f1 : isFn S 1 n1) (f2 : isFn S 2 n2) (ht : pprove (S 1 4) (S 2) (S 3) (S 4) n0 n1 n2 m) : pprove (S 1 4) (S 2) (S 3) (S 4) p n1 n2 m := by
  have l0 := hk.2.1 0 (by omega) (by omega)
  have l1 := hk.2.1 1 (by omega) (by omega)
  have l2 := hk.2.1 2 (by omega) (by omega)
  have w := pworth_in l0 f0 (x := S 2 0) (by omega)
  have w' := pworth_in l0 fp (x := S 2 0) (by omega)
  refine prove_of hk f0 f1 f2 fp f1 f2 (A := pworth (S 2 0) n0 (S 2 0)) (B := pworth (S 2 0) p (S 2 0)) (by omega) (by omega) ?_ (fun b t b0 b1 hb => ?_) ht
  · unfold phas3
    ac_rfl
  · have q := pdom_turn hk hd (a := 0) (by omega) h ⟨b0, b1⟩ hb
    have hn := hk.1
    have e1 := pext_in hk (b := b) (t := t) (a := 1) (by omega) (by omega)
    have e2 := pext_in hk (b := b) (t := t) (a := 2) (by omega) (by omega)
    have w1 := pworth_in l1 f1 (x := pext (S 3) b t 1) (by have := hb.2.2; omega)
    have w2 := pworth_in l2 f2 (x := pext (S 3) b t 2) (by have := hb.2.2; omega)
    have := Int.mul_le_mul_of_nonneg_right q (Int.mul_nonneg w1.1 w2.1)
    unfold pprod
    have e3 : pworth (S 2 0) p (S 2 0) * (pworth (S 2 0) n0 (pext (S 3) b t 0) * pworth (S 2 1) n1 (pext (S 3) b t 1) * pworth (S 2 2) n2 (pext (S 3) b t 2)) = pworth (S 2 0) n0 (pext (S 3) b t 0) * pworth (S 2 0) p (S 2 0) * (pworth (S 2 1) n1 (pext (S 3) b t 1) * pworth (S 2 2) n2 (pext (S 3) b t 2)) := by ac_rfl
    have e4 : pworth (S 2 0) n0 (S 2 0) * (pworth (S 2 0) p (pext (S 3) b t 0) * pworth (S 2 1) n1 (pext (S 3) b t 1) * pworth (S 2 2) n2 (pext (S 3) b t 2)) = pworth (S 2 0) p (pext (S 3) b t 0) * pworth (S 2 0) n0 (S 2 0) * (pworth (S 2 1) n1 (pext (S 3) b t 1) * pworth (S 2 2) n2 (pext (S 3) b t 2)) := by ac_rfl
    rw [e3, e4]
    exact this
theorem dom1 {S : jMem} (hk : cOK S) (hd : dOK S) {p n0 n1 n2 m : Int} (h : pdom S 1 p n1) (f0 : isFn S 0 n0) (fp : isFn S 1 p) (f1 : isFn S 1 n1) (f2 : isFn S 2 n2) (ht : pprove (S 1 4) (S 2) (S 3) (S 4) n0 n1 n2 m) : pprove (S 1 4) (S 2) (S 3) (S 4) n0 p n2 m := by
  have l0 := hk.2.1 0 (by omega) (by omega)
  have l1 := hk.2.1 1 (by omega) (by omega)
  have l2 := hk.2.1 2 (by omega) (by omega)
  have w := pworth_in l1 f1 (x := S 2 1) (by omega)
  have w' := pworth_in l1 fp (x := S 2 1) (by omega)
  refine prove_of hk f0 f1 f2 f0 fp f2 (A := pworth (S 2 1) n1 (S 2 1)) (B := pworth (S 2 1) p (S 2 1)) (by omega) (by omega) ?_ (fun b t b0 b1 hb => ?_) ht
  · unfold phas3
    ac_rfl
  · have q := pdom_turn hk hd (a := 1) (by omega) h ⟨b0, b1⟩ hb
    have hn := hk.1
    have e1 := pext_in hk (b := b) (t := t) (a := 0) (by omega) (by omega)
    have e2 := pext_in hk (b := b) (t := t) (a := 2) (by omega) (by omega)
    have w1 := pworth_in l0 f0 (x := pext (S 3) b t 0) (by have := hb.2.2; omega)
    have w2 := pworth_in l2 f2 (x := pext (S 3) b t 2) (by have := hb.2.2; omega)
    have := Int.mul_le_mul_of_nonneg_right q (Int.mul_nonneg w1.1 w2.1)
    unfold pprod
    have e3 : pworth (S 2 1) p (S 2 1) * (pworth (S 2 0) n0 (pext (S 3) b t 0) * pworth (S 2 1) n1 (pext (S 3) b t 1) * pworth (S 2 2) n2 (pext (S 3) b t 2)) = pworth (S 2 1) n1 (pext (S 3) b t 1) * pworth (S 2 1) p (S 2 1) * (pworth (S 2 0) n0 (pext (S 3) b t 0) * pworth (S 2 2) n2 (pext (S 3) b t 2)) := by ac_rfl
    have e4 : pworth (S 2 1) n1 (S 2 1) * (pworth (S 2 0) n0 (pext (S 3) b t 0) * pworth (S 2 1) p (pext (S 3) b t 1) * pworth (S 2 2) n2 (pext (S 3) b t 2)) = pworth (S 2 1) p (pext (S 3) b t 1) * pworth (S 2 1) n1 (S 2 1) * (pworth (S 2 0) n0 (pext (S 3) b t 0) * pworth (S 2 2) n2 (pext (S 3) b t 2)) := by ac_rfl
    rw [e3, e4]
    exact this
theorem dom2 {S : jMem} (hk : cOK S) (hd : dOK S) {p n0 n1 n2 m : Int} (h : pdom S 2 p n2) (f0 : isFn S 0 n0) (fp : isFn S 2 p) (f1 : isFn S 1 n1) (f2 : isFn S 2 n2) (ht : pprove (S 1 4) (S 2) (S 3) (S 4) n0 n1 n2 m) : pprove (S 1 4) (S 2) (S 3) (S 4) n0 n1 p m := by
  have l0 := hk.2.1 0 (by omega) (by omega)
  have l1 := hk.2.1 1 (by omega) (by omega)
  have l2 := hk.2.1 2 (by omega) (by omega)
  have w := pworth_in l2 f2 (x := S 2 2) (by omega)
  have w' := pworth_in l2 fp (x := S 2 2) (by omega)
  refine prove_of hk f0 f1 f2 f0 f1 fp (A := pworth (S 2 2) n2 (S 2 2)) (B := pworth (S 2 2) p (S 2 2)) (by omega) (by omega) ?_ (fun b t b0 b1 hb => ?_) ht
  · unfold phas3
    ac_rfl
  · have q := pdom_turn hk hd (a := 2) (by omega) h ⟨b0, b1⟩ hb
    have hn := hk.1
    have e1 := pext_in hk (b := b) (t := t) (a := 0) (by omega) (by omega)
    have e2 := pext_in hk (b := b) (t := t) (a := 1) (by omega) (by omega)
    have w1 := pworth_in l0 f0 (x := pext (S 3) b t 0) (by have := hb.2.2; omega)
    have w2 := pworth_in l1 f1 (x := pext (S 3) b t 1) (by have := hb.2.2; omega)
    have := Int.mul_le_mul_of_nonneg_right q (Int.mul_nonneg w1.1 w2.1)
    unfold pprod
    have e3 : pworth (S 2 2) p (S 2 2) * (pworth (S 2 0) n0 (pext (S 3) b t 0) * pworth (S 2 1) n1 (pext (S 3) b t 1) * pworth (S 2 2) n2 (pext (S 3) b t 2)) = pworth (S 2 2) n2 (pext (S 3) b t 2) * pworth (S 2 2) p (S 2 2) * (pworth (S 2 0) n0 (pext (S 3) b t 0) * pworth (S 2 1) n1 (pext (S 3) b t 1)) := by ac_rfl
    have e4 : pworth (S 2 2) n2 (S 2 2) * (pworth (S 2 0) n0 (pext (S 3) b t 0) * pworth (S 2 1) n1 (pext (S 3) b t 1) * pworth (S 2 2) p (pext (S 3) b t 2)) = pworth (S 2 2) p (pext (S 3) b t 2) * pworth (S 2 2) n2 (S 2 2) * (pworth (S 2 0) n0 (pext (S 3) b t 0) * pworth (S 2 1) n1 (pext (S 3) b t 1)) := by ac_rfl
    rw [e3, e4]
    exact this
/-- which of three is first -/
def lex3 (a b c a' b' c' : Int) : Prop := a < a' ∨ (a = a' ∧ (b < b' ∨ (b = b' ∧ c < c')))
/-- a proof has one by functions that are tried, none of them later -/
theorem tried_of {S : jMem} (hk : cOK S) (hd : dOK S) (t0 : trOK S 0) (t1 : trOK S 1) (t2 : trOK S 2) {a b c m : Int} (f0 : isFn S 0 a) (f1 : isFn S 1 b) (f2 : isFn S 2 c) (h : pprove (S 1 4) (S 2) (S 3) (S 4) a b c m) : ∃ a' b' c', (isFn S 0 a' ∧ a' ≤ a ∧ zbit (S 31 0) a') ∧ (isFn S 1 b' ∧ b' ≤ b ∧ zbit (S 31 1) b') ∧ (isFn S 2 c' ∧ c' ≤ c ∧ zbit (S 31 2) c') ∧ pprove (S 1 4) (S 2) (S 3) (S 4) a' b' c' m := by
  obtain ⟨a', g0, ha⟩ : ∃ a', (isFn S 0 a' ∧ a' ≤ a ∧ zbit (S 31 0) a') ∧ pprove (S 1 4) (S 2) (S 3) (S 4) a' b c m := by
    rcases t0.2 a f0 with q | ⟨p, p1, p2, p3⟩
    · exact ⟨a, ⟨f0, Int.le_refl _, q⟩, h⟩
    · exact ⟨p, ⟨⟨p1.1, by have := f0.2; omega⟩, by omega, p2⟩, dom0 hk hd p3 f0 ⟨p1.1, by have := f0.2; omega⟩ f1 f2 h⟩
  obtain ⟨b', g1, hb⟩ : ∃ b', (isFn S 1 b' ∧ b' ≤ b ∧ zbit (S 31 1) b') ∧ pprove (S 1 4) (S 2) (S 3) (S 4) a' b' c m := by
    rcases t1.2 b f1 with q | ⟨p, p1, p2, p3⟩
    · exact ⟨b, ⟨f1, Int.le_refl _, q⟩, ha⟩
    · exact ⟨p, ⟨⟨p1.1, by have := f1.2; omega⟩, by omega, p2⟩, dom1 hk hd p3 g0.1 ⟨p1.1, by have := f1.2; omega⟩ f1 f2 ha⟩
  obtain ⟨c', g2, hc⟩ : ∃ c', (isFn S 2 c' ∧ c' ≤ c ∧ zbit (S 31 2) c') ∧ pprove (S 1 4) (S 2) (S 3) (S 4) a' b' c' m := by
    rcases t2.2 c f2 with q | ⟨p, p1, p2, p3⟩
    · exact ⟨c, ⟨f2, Int.le_refl _, q⟩, hb⟩
    · exact ⟨p, ⟨⟨p1.1, by have := f2.2; omega⟩, by omega, p2⟩, dom2 hk hd p3 g0.1 ⟨p1.1, by have := f2.2; omega⟩ g1.1 f2 hb⟩
  exact ⟨a', b', c', g0, g1, g2, hc⟩
/-- THE PROOF, as the answers tell it -/
def isProof (n : Int) (len sid tb : Int → Int) (g : Int → Int) : Prop :=
  ((∀ a b c, (0 ≤ a ∧ a ≤ len 0 / 2 * 2) → (0 ≤ b ∧ b ≤ len 1 / 2 * 2) → (0 ≤ c ∧ c ≤ len 2 / 2 * 2) → ¬ pprove n len sid tb a b c (pall n)) ∧ g 0 = -9 ∧ g 1 = -9 ∧ g 2 = -9 ∧ g 3 = -9) ∨
  ∃ a b c, (0 ≤ a ∧ a ≤ len 0 / 2 * 2) ∧ (0 ≤ b ∧ b ≤ len 1 / 2 * 2) ∧ (0 ≤ c ∧ c ≤ len 2 / 2 * 2) ∧ pprove n len sid tb a b c (pall n) ∧ (∀ a' b' c', (0 ≤ a' ∧ a' ≤ len 0 / 2 * 2) → (0 ≤ b' ∧ b' ≤ len 1 / 2 * 2) → (0 ≤ c' ∧ c' ≤ len 2 / 2 * 2) → lex3 a' b' c' a b c → ¬ pprove n len sid tb a' b' c' (pall n)) ∧
    g 0 = a ∧ g 1 = b ∧ g 2 = c ∧ g 3 = preason (pprove n len sid tb a b c) (n - 0).toNat 0 (pall n)
theorem isProof.uniq {n : Int} {len sid tb g h : Int → Int} (hg : isProof n len sid tb g) (hh : isProof n len sid tb h) : g 0 = h 0 ∧ g 1 = h 1 ∧ g 2 = h 2 ∧ g 3 = h 3 := by
  rcases hg with ⟨x1, x2⟩ | ⟨a, b, c, fa, fb, fc, ht, hl, e0, e1, e2, e3⟩ <;> rcases hh with ⟨y1, y2⟩ | ⟨a', b', c', ga, gb, gc, kt, kl, d0, d1, d2, d3⟩
  · omega
  · exact absurd kt (x1 a' b' c' ga gb gc)
  · exact absurd ht (y1 a b c fa fb fc)
  · have n1 : ¬ lex3 a' b' c' a b c := fun q => hl a' b' c' ga gb gc q kt
    have n2 : ¬ lex3 a b c a' b' c' := fun q => kl a b c fa fb fc q ht
    unfold lex3 at n1 n2
    have ea : a = a' := by omega
    have eb : b = b' := by omega
    have ec : c = c' := by omega
    subst ea; subst eb; subst ec
    exact ⟨e0.trans d0.symm, e1.trans d1.symm, e2.trans d2.symm, e3.trans d3.symm⟩
end
section
theorem pdom_eq {q : Nat} {S0 S : jMem} (h : only q S0 S) (hq : q ≠ 1 ∧ q ≠ 2 ∧ q ≠ 28 ∧ q ≠ 29) (a p n : Int) : pdom S a p n = pdom S0 a p n := by
  unfold pdom
  rw [h 1 (Ne.symm hq.1), h 2 (Ne.symm hq.2.1), h 28 (Ne.symm hq.2.2.1), h 29 (Ne.symm hq.2.2.2)]
theorem only.keeps {q : Nat} {S0 S : jMem} (h : only q S0 S) : keeps [q] S0 S := fun k hk => h k (fun e => hk (by rw [e]; exact List.mem_singleton_self q))
theorem only.dok {S0 S : jMem} (h : only 31 S0 S) (hd : dOK S0) : dOK S := hd.keeps h.keeps (by decide)
theorem l_idle2 {E : jEnv} {G : jG} (hG : cG G) (C : jX E G cX1_leaveOutIdle 5 RX1 1 28) (S0 S : jMem) (a n : Int) (hk : cOK S0) (hd : dOK S0) (ha : 0 ≤ a ∧ a < 3) (hj : idI S0 a n S) (hn : 0 ≤ n ∧ n ≤ S0 2 a / 2 * 2) : ∀ (mm : Nat) (d p : Int), mm = (n - p).toNat → ((0 ≤ p ∧ p ≤ n) ∧ (d = 0 ∨ d = 1) ∧ (d = 1 ↔ ∃ q, (0 ≤ q ∧ q < p) ∧ zbit (S 31 a) q ∧ pdom S0 a q n)) → (∀ d, (d = 0 ∨ d = 1) → (d = 1 ↔ ∃ q, (0 ≤ q ∧ q < n) ∧ zbit (S 31 a) q ∧ pdom S0 a q n) → J E G 66 [(0, .ref (jad G 25)), (1, .int (iI a)), (2, .int (iI n)), (3, .int (iI d))] [] S) → J E G 23 [(0, .ref (jad G 25)), (1, .int (iI (a))), (2, .int (iI (n))), (3, .int (iI (d))), (4, .int (iI (p)))] [] S := by
  intro mm
  induction mm using Nat.strongRecOn with | ind mm ih => ?_
  intro d p hm hi K
  obtain ⟨hp, hA, hB⟩ := hi
  have hk2 := hj.1.ok (by decide) hk
  have hd2 := hj.1.dok hd
  have e2 : S 2 a = S0 2 a := by rw [hj.1 2 (by decide)]
  have hL := hk.2.1 a (by omega) (by omega)
  have hz := hj.2.2.1
  refine J_iload C 4 dX1_leaveOutIdle_23 rfl ?_
  refine J_iload_n C 2 dX1_leaveOutIdle_25 rfl ?_
  refine J_icmp_ge C 66 dX1_leaveOutIdle_26 (by decide) (by omega) (by omega) (fun h1 => ?_) (fun h1 => ?_)
  · refine J_lv [0, 1, 2, 3] rfl ?_
    refine K d hA ⟨fun h => ?_, fun ⟨q, q1, q2, q3⟩ => ?_⟩
    · obtain ⟨q, q1, q2⟩ := hB.mp h; exact ⟨q, by omega, q2⟩
    · by_cases e : d = 1
      · exact e
      · exact hB.mpr ⟨q, by omega, q2, q3⟩
  · refine J_iload_n C 3 dX1_leaveOutIdle_29 rfl ?_
    refine J_if_ne C 66 dX1_leaveOutIdle_30 (by decide) (by omega) (fun h2 => ?_) (fun h2 => ?_)
    · refine J_lv [0, 1, 2, 3] rfl ?_
      refine K d hA ⟨fun h => ?_, fun ⟨q, q1, q2, q3⟩ => ?_⟩
      · obtain ⟨q, q1, q2⟩ := hB.mp h; exact ⟨q, by omega, q2⟩
      · by_cases e : d = 1
        · exact e
        · exact hB.mpr ⟨q, by omega, q2, q3⟩
    · refine J_aload_n C 0 dX1_leaveOutIdle_33 rfl ?_
      refine J_iload_n C 1 dX1_leaveOutIdle_34 rfl ?_
      refine J_iload C 4 dX1_leaveOutIdle_35 rfl ?_
      refine J_callV (k := 25) (rest := []) C (c_isTried hG S (a) (p) (by omega) (by omega) (by omega)) kc_X1_isTried kl_X1_93 (by rw [hG.2]; decide) (by rw [hG.1]; rfl) rfl dX1_leaveOutIdle_37 rfl rfl (by decide) (Nat.le_of_ble_eq_true rfl) (J_ki (fun v3 S3 h3 => ?_))
      obtain ⟨rfl, rfl⟩ := h3
      refine J_if_eq_b C 58 dX1_leaveOutIdle_40 (by decide) (fun h4 => ?_) (fun h4 => ?_)
      · refine J_iconst C dX1_leaveOutIdle_58 ?_
        refine J_istore_n (lv' := [(3, .int (iI (0))), (0, .ref (jad G 25)), (1, .int (iI (a))), (2, .int (iI (n))), (4, .int (iI (p)))]) C dX1_leaveOutIdle_59 (by decide) rfl ?_
        refine J_iinc (lv' := [(4, .int (iI (p + 1))), (3, .int (iI (0))), (0, .ref (jad G 25)), (1, .int (iI (a))), (2, .int (iI (n)))]) C 4 dX1_leaveOutIdle_60 rfl (by decide) rfl ?_
        refine J_goto C 23 dX1_leaveOutIdle_63 (by decide) ?_
        refine J_lv [2, 3, 4, 1, 0] rfl ?_
        refine ih _ (by omega) 0 (p + 1) rfl ⟨by omega, Or.inl rfl, ⟨fun h => by omega, fun ⟨q, q1, q2, q3⟩ => ?_⟩⟩ K
        exfalso
        by_cases e : q = p
        · subst e; first | exact absurd q2 (by assumption) | exact absurd q3 (by assumption)
        · have := hB.mpr ⟨q, by omega, q2, q3⟩; omega
      · refine J_aload_n C 0 dX1_leaveOutIdle_43 rfl ?_
        refine J_iload_n C 1 dX1_leaveOutIdle_44 rfl ?_
        refine J_iload C 4 dX1_leaveOutIdle_45 rfl ?_
        refine J_iload_n C 2 dX1_leaveOutIdle_47 rfl ?_
        refine J_callV (k := 25) (rest := []) C (c_gives hG S (a) (p) (n) hk2 hd2 (by omega) (by omega) (by omega)) kc_X1_givesNoLess kl_X1_117 (by rw [hG.2]; decide) (by rw [hG.1]; rfl) rfl dX1_leaveOutIdle_48 rfl rfl (by decide) (Nat.le_of_ble_eq_true rfl) (J_ki (fun v5 S5 h5 => ?_))
        obtain ⟨rfl, rfl⟩ := h5
        refine J_top (b := bb (pdom S0 (a) (p) (n))) (by rw [pdom_eq hj.1 (by decide)]) ?_
        refine J_if_eq_b C 58 dX1_leaveOutIdle_51 (by decide) (fun h6 => ?_) (fun h6 => ?_)
        · refine J_iconst C dX1_leaveOutIdle_58 ?_
          refine J_istore_n (lv' := [(3, .int (iI (0))), (0, .ref (jad G 25)), (1, .int (iI (a))), (2, .int (iI (n))), (4, .int (iI (p)))]) C dX1_leaveOutIdle_59 (by decide) rfl ?_
          refine J_iinc (lv' := [(4, .int (iI (p + 1))), (3, .int (iI (0))), (0, .ref (jad G 25)), (1, .int (iI (a))), (2, .int (iI (n)))]) C 4 dX1_leaveOutIdle_60 rfl (by decide) rfl ?_
          refine J_goto C 23 dX1_leaveOutIdle_63 (by decide) ?_
          refine J_lv [2, 3, 4, 1, 0] rfl ?_
          refine ih _ (by omega) 0 (p + 1) rfl ⟨by omega, Or.inl rfl, ⟨fun h => by omega, fun ⟨q, q1, q2, q3⟩ => ?_⟩⟩ K
          exfalso
          by_cases e : q = p
          · subst e; first | exact absurd q2 (by assumption) | exact absurd q3 (by assumption)
          · have := hB.mpr ⟨q, by omega, q2, q3⟩; omega
        · refine J_iconst C dX1_leaveOutIdle_54 ?_
          refine J_goto C 59 dX1_leaveOutIdle_55 (by decide) ?_
          refine J_istore_n (lv' := [(3, .int (iI (1))), (0, .ref (jad G 25)), (1, .int (iI (a))), (2, .int (iI (n))), (4, .int (iI (p)))]) C dX1_leaveOutIdle_59 (by decide) rfl ?_
          refine J_iinc (lv' := [(4, .int (iI (p + 1))), (3, .int (iI (1))), (0, .ref (jad G 25)), (1, .int (iI (a))), (2, .int (iI (n)))]) C 4 dX1_leaveOutIdle_60 rfl (by decide) rfl ?_
          refine J_goto C 23 dX1_leaveOutIdle_63 (by decide) ?_
          refine J_lv [2, 3, 4, 1, 0] rfl ?_
          exact ih _ (by omega) 1 (p + 1) rfl ⟨by omega, Or.inr rfl, ⟨fun _ => ⟨p, by omega, by assumption, by assumption⟩, fun _ => rfl⟩⟩ K
theorem l_idle1 {E : jEnv} {G : jG} (hG : cG G) (C : jX E G cX1_leaveOutIdle 5 RX1 1 28) (S0 : jMem) (a : Int) (hk : cOK S0) (hd : dOK S0) (ha : 0 ≤ a ∧ a < 3) (R : jR E G none (jPv (fun S' => only 31 S0 S' ∧ (∀ j, j ≠ a → S' 31 j = S0 31 j) ∧ trOK S' a))) : ∀ (mm : Nat) (n : Int) (S : jMem), mm = (S0 2 a / 2 * 2 + 1 - n).toNat → (idI S0 a n S ∧ (0 ≤ n ∧ n ≤ S0 2 a / 2 * 2 + 1)) → J E G 9 [(0, .ref (jad G 25)), (1, .int (iI (a))), (2, .int (iI (n)))] [] S := by
  intro mm
  induction mm using Nat.strongRecOn with | ind mm ih => ?_
  intro n S hm hj
  obtain ⟨hj, hn⟩ := hj
  have hk2 := hj.1.ok (by decide) hk
  have hd2 := hj.1.dok hd
  have e2 : S 2 a = S0 2 a := by rw [hj.1 2 (by decide)]
  have hL := hk.2.1 a (by omega) (by omega)
  have hz := hj.2.2.1
  refine J_iload_n C 2 dX1_leaveOutIdle_9 rfl ?_
  refine J_aload_n C 0 dX1_leaveOutIdle_10 rfl ?_
  refine J_iload_n C 1 dX1_leaveOutIdle_11 rfl ?_
  refine J_callV (k := 25) (rest := [.int (iI (n))]) C (c_lastF hG S (a) hk2 (by omega)) kc_X1_lastFunction kl_X1_46 (by rw [hG.2]; decide) (by rw [hG.1]; rfl) rfl dX1_leaveOutIdle_12 rfl rfl (by decide) (Nat.le_of_ble_eq_true rfl) (J_ki (fun v1 S1 h1 => ?_))
  obtain ⟨rfl, rfl⟩ := h1
  refine J_top (b := S0 2 (a) / 2 * 2) (by rw [hj.1 2 (by decide)]) ?_
  refine J_icmp_gt C 88 dX1_leaveOutIdle_15 (by decide) (by omega) (by omega) (fun h2 => ?_) (fun h2 => ?_)
  · refine J_vret R C dX1_leaveOutIdle_88 (jPv.mk ⟨hj.1, hj.2.1, hz, fun k fk => ?_⟩)
    have fk : 0 ≤ k ∧ k ≤ S0 2 a / 2 * 2 := by omega
    by_cases hb : zbit (S 31 a) k
    · exact Or.inl hb
    · refine Or.inr ?_
      have h1 := hj.2.2.2.2 k fk.1 (by omega)
      obtain ⟨q, q1, q2, q3⟩ := Classical.not_not.mp (fun hc => hb (h1.mpr hc))
      exact ⟨q, q1, q2, by rw [pdom_eq hj.1 (by decide)]; exact q3⟩
  · refine J_iconst C dX1_leaveOutIdle_18 ?_
    refine J_istore_n (lv' := [(3, .int (iI (0))), (0, .ref (jad G 25)), (1, .int (iI (a))), (2, .int (iI (n)))]) C dX1_leaveOutIdle_19 (by decide) rfl ?_
    refine J_iconst C dX1_leaveOutIdle_20 ?_
    refine J_istore (lv' := [(4, .int (iI (0))), (3, .int (iI (0))), (0, .ref (jad G 25)), (1, .int (iI (a))), (2, .int (iI (n)))]) C dX1_leaveOutIdle_21 (by decide) rfl ?_
    have hlt : (S0 2 a / 2 * 2 + 1 - (n + 1)).toNat < mm := by omega
    have hnn : 0 ≤ n + 1 ∧ n + 1 ≤ S0 2 a / 2 * 2 + 1 := by omega
    have hw := zpow_lt (n := n) (k := 21) hn.1 (by omega)
    refine J_lv [2, 3, 4, 1, 0] rfl ?_
    refine l_idle2 hG C S0 S a n hk hd ha hj (by omega) _ 0 0 rfl ⟨by omega, Or.inl rfl, ⟨fun h => by omega, fun ⟨q, q1, q2⟩ => by omega⟩⟩ (fun d hd1 hx => ?_)
    refine J_iload_n C 3 dX1_leaveOutIdle_66 rfl ?_
    refine J_if_ne C 82 dX1_leaveOutIdle_67 (by decide) (by omega) (fun h51 => ?_) (fun h51 => ?_)
    · refine J_iinc (lv' := [(2, .int (iI (n + 1))), (0, .ref (jad G 25)), (1, .int (iI (a))), (3, .int (iI (d)))]) C 2 dX1_leaveOutIdle_82 rfl (by decide) rfl ?_
      refine J_goto C 9 dX1_leaveOutIdle_85 (by decide) ?_
      refine J_lv [1, 2, 0] rfl ?_
      exact ih _ hlt (n + 1) S rfl ⟨hj.skip hn.1 (hx.mp (hd1.resolve_left (by assumption))), hnn⟩
    · refine J_aload_n C 0 dX1_leaveOutIdle_70 rfl ?_
      refine g_X1_27 hG C dX1_leaveOutIdle_71 ?_
      refine J_iload_n C 1 dX1_leaveOutIdle_74 rfl ?_
      refine J_dup2 C dX1_leaveOutIdle_75 rfl rfl ?_
      refine cald hG C 31 3 (by decide) dX1_leaveOutIdle_76 (by omega) (by omega) ?_
      refine J_iconst C dX1_leaveOutIdle_77 ?_
      refine J_iload_n C 2 dX1_leaveOutIdle_78 rfl ?_
      refine J_ishl C dX1_leaveOutIdle_79 (by omega) (by omega) ?_
      refine J_ior C (zor (S 31 (a)) ((1) * 2 ^ (n).toNat)) dX1_leaveOutIdle_80 (iI_zor (by omega) (by omega) (by omega) (by omega)) ?_
      refine cast hG C 31 3 (by decide) dX1_leaveOutIdle_81 (by omega) (by omega) ?_
      refine J_iinc (lv' := [(2, .int (iI (n + 1))), (0, .ref (jad G 25)), (1, .int (iI (a))), (3, .int (iI (d)))]) C 2 dX1_leaveOutIdle_82 rfl (by decide) rfl ?_
      refine J_goto C 9 dX1_leaveOutIdle_85 (by decide) ?_
      refine J_lv [1, 2, 0] rfl ?_
      exact ih _ hlt (n + 1) _ rfl ⟨hj.set (by omega) (fun hc => by have := hx.mpr hc; omega), hnn⟩
theorem c_idle {G : jG} (hG : cG G) (S0 : jMem) (a : Int) (hk : cOK S0) (hd : dOK S0) (ha : 0 ≤ a ∧ a < 3) : jM G yX1_leaveOutIdle cX1_leaveOutIdle 5 none 1 28 [.ref (jad G 25), .int (iI (a))] S0 (jPv (fun S' => only 31 S0 S' ∧ (∀ j, j ≠ a → S' 31 j = S0 31 j) ∧ trOK S' a)) := by
  refine jM.of (by decide) (Nat.le_of_ble_eq_true rfl) (fun E C R => ?_)
  show J E G 0 [(0, .ref (jad G 25)), (1, .int (iI (a)))] [] _
  refine J_aload_n C 0 dX1_leaveOutIdle_0 rfl ?_
  refine g_X1_27 hG C dX1_leaveOutIdle_1 ?_
  refine J_iload_n C 1 dX1_leaveOutIdle_4 rfl ?_
  refine J_iconst C dX1_leaveOutIdle_5 ?_
  refine cast hG C 31 3 (by decide) dX1_leaveOutIdle_6 (by omega) (by omega) ?_
  refine J_iconst C dX1_leaveOutIdle_7 ?_
  refine J_istore_n (lv' := [(2, .int (iI (0))), (0, .ref (jad G 25)), (1, .int (iI (a)))]) C dX1_leaveOutIdle_8 (by decide) rfl ?_
  refine J_lv [1, 2, 0] rfl ?_
  have hL := hk.2.1 a (by omega) (by omega)
  refine l_idle1 hG C S0 a hk hd ha R _ 0 _ rfl ⟨⟨only.rf.up _ _, fun j hj => up2_a _ _ _ hj, by rw [up2_eq]; omega, fun j h1 h2 => by rw [up2_eq]; exact zbit_0 j, fun j h1 h2 => by omega⟩, by omega⟩
end
section
theorem l_sol {E : jEnv} {G : jG} (hG : cG G) (C : jX E G cX1_seekOnLastAxis 4 RX1 4 95) (S : jMem) (n0 n1 : Int) (P : Int → jMem → Prop) (hk : cOK S) (hd : dOK S) (ha : aOK S n0 n1) (f0 : isFn S 0 n0) (f1 : isFn S 1 n1) (hz : 0 ≤ S 31 2 ∧ S 31 2 < 2 ^ 21) (hP0 : (∀ k, isFn S 2 k → zbit (S 31 2) k → ¬ pprove (S 1 4) (S 2) (S 3) (S 4) n0 n1 k (pall (S 1 4))) → P 0 S) (hP1 : ∀ k, isFn S 2 k → zbit (S 31 2) k → pprove (S 1 4) (S 2) (S 3) (S 4) n0 n1 k (pall (S 1 4)) → (∀ j, 0 ≤ j → j < k → zbit (S 31 2) j → ¬ pprove (S 1 4) (S 2) (S 3) (S 4) n0 n1 j (pall (S 1 4))) → P 1 (up2 (up2 (up2 (up2 S 26 0 (n0)) 26 1 (n1)) 26 2 (k)) 26 3 (preason (pprove (S 1 4) (S 2) (S 3) (S 4) n0 n1 k) (S 1 4 - 0).toNat 0 (pall (S 1 4))))) (R : jR E G (some .boolean) (jPi P)) : ∀ (mm : Nat) (n2 : Int), mm = (S 2 2 / 2 * 2 + 1 - n2).toNat → ((0 ≤ n2 ∧ n2 ≤ S 2 2 / 2 * 2 + 1) ∧ ∀ j, 0 ≤ j → j < n2 → zbit (S 31 2) j → ¬ pprove (S 1 4) (S 2) (S 3) (S 4) n0 n1 j (pall (S 1 4))) → J E G 8 [(0, .ref (jad G 25)), (1, .int (iI (n0))), (2, .int (iI (n1))), (3, .int (iI (n2)))] [] S := by
  intro mm
  induction mm using Nat.strongRecOn with | ind mm ih => ?_
  intro n2 hm hj
  obtain ⟨hn2, hj⟩ := hj
  have hpa := pall_in hk.1
  have l0 := hk.2.1 0 (by omega) (by omega)
  have l1 := hk.2.1 1 (by omega) (by omega)
  have l2 := hk.2.1 2 (by omega) (by omega)
  refine J_iload_n C 3 dX1_seekOnLastAxis_8 rfl ?_
  refine J_aload_n C 0 dX1_seekOnLastAxis_9 rfl ?_
  refine J_iconst C dX1_seekOnLastAxis_10 ?_
  refine J_callV (k := 25) (rest := [.int (iI (n2))]) C (c_lastF hG S (2) hk (by omega)) kc_X1_lastFunction kl_X1_46 (by rw [hG.2]; decide) (by rw [hG.1]; rfl) rfl dX1_seekOnLastAxis_11 rfl rfl (by decide) (Nat.le_of_ble_eq_true rfl) (J_ki (fun v1 S1 h1 => ?_))
  obtain ⟨rfl, rfl⟩ := h1
  have q1 := hk.2.1 (2) (by omega) (by omega)
  refine J_icmp_gt C 61 dX1_seekOnLastAxis_14 (by decide) (by omega) (by omega) (fun h2 => ?_) (fun h2 => ?_)
  · refine J_iconst C dX1_seekOnLastAxis_61 ?_
    exact J_zret R C dX1_seekOnLastAxis_62 (Or.inl rfl) (jPi.mk (hP0 (fun k fk => hj k fk.1 (by have := fk.2; omega))))
  · have f2 : isFn S 2 n2 := ⟨hn2.1, by omega⟩
    refine J_aload_n C 0 dX1_seekOnLastAxis_17 rfl ?_
    refine J_iconst C dX1_seekOnLastAxis_18 ?_
    refine J_iload_n C 3 dX1_seekOnLastAxis_19 rfl ?_
    refine J_callV (k := 25) (rest := []) C (c_isTried hG S (2) (n2) (by omega) (by omega) (by omega)) kc_X1_isTried kl_X1_93 (by rw [hG.2]; decide) (by rw [hG.1]; rfl) rfl dX1_seekOnLastAxis_20 rfl rfl (by decide) (Nat.le_of_ble_eq_true rfl) (J_ki (fun v3 S3 h3 => ?_))
    obtain ⟨rfl, rfl⟩ := h3
    refine J_if_eq_b C 55 dX1_seekOnLastAxis_23 (by decide) (fun h4 => ?_) (fun h4 => ?_)
    · refine J_iinc (lv' := [(3, .int (iI (n2 + 1))), (0, .ref (jad G 25)), (1, .int (iI (n0))), (2, .int (iI (n1)))]) C 3 dX1_seekOnLastAxis_55 rfl (by decide) rfl ?_
      refine J_goto C 8 dX1_seekOnLastAxis_58 (by decide) ?_
      refine J_lv [1, 2, 3, 0] rfl ?_
      refine ih _ (by omega) (n2 + 1) rfl ⟨by omega, fun j a1 a2 a3 => ?_⟩
      by_cases e : j = n2
      · subst e; first | assumption | exact absurd a3 (by assumption)
      · exact hj j a1 (by omega) a3
    · refine J_aload_n C 0 dX1_seekOnLastAxis_26 rfl ?_
      refine J_aload_n C 0 dX1_seekOnLastAxis_27 rfl ?_
      refine g_X1_30 hG C dX1_seekOnLastAxis_28 ?_
      refine J_callV (k := 1) (rest := [.ref (jad G 25)]) C (c_allBoxes hG S hk.1) kc_X4_allBoxes kl_X1_107 (by rw [hG.2]; decide) (by rw [hG.1]; rfl) rfl dX1_seekOnLastAxis_31 rfl rfl (by decide) (Nat.le_of_ble_eq_true rfl) (J_ki (fun v5 S5 h5 => ?_))
      obtain ⟨rfl, rfl⟩ := h5
      refine J_iload_n C 3 dX1_seekOnLastAxis_34 rfl ?_
      refine J_callV (k := 25) (rest := []) C (c_proves hG S n0 n1 (n2) (1 * 2 ^ (S 1 4).toNat - 1) hk hd ha f0 f1 f2 (by omega)) kc_X1_proves kl_X1_111 (by rw [hG.2]; decide) (by rw [hG.1]; rfl) rfl dX1_seekOnLastAxis_35 rfl rfl (by decide) (Nat.le_of_ble_eq_true rfl) (J_ki (fun v6 S6 h6 => ?_))
      obtain ⟨rfl, rfl⟩ := h6
      refine J_if_eq_b C 55 dX1_seekOnLastAxis_38 (by decide) (fun h7 => ?_) (fun h7 => ?_)
      · refine J_iinc (lv' := [(3, .int (iI (n2 + 1))), (0, .ref (jad G 25)), (1, .int (iI (n0))), (2, .int (iI (n1)))]) C 3 dX1_seekOnLastAxis_55 rfl (by decide) rfl ?_
        refine J_goto C 8 dX1_seekOnLastAxis_58 (by decide) ?_
        refine J_lv [1, 2, 3, 0] rfl ?_
        refine ih _ (by omega) (n2 + 1) rfl ⟨by omega, fun j a1 a2 a3 => ?_⟩
        by_cases e : j = n2
        · subst e; first | assumption | exact absurd a3 (by assumption)
        · exact hj j a1 (by omega) a3
      · refine J_aload_n C 0 dX1_seekOnLastAxis_41 rfl ?_
        refine J_iload_n C 1 dX1_seekOnLastAxis_42 rfl ?_
        refine J_iload_n C 2 dX1_seekOnLastAxis_43 rfl ?_
        refine J_iload_n C 3 dX1_seekOnLastAxis_44 rfl ?_
        refine J_aload_n C 0 dX1_seekOnLastAxis_45 rfl ?_
        refine J_iload_n C 3 dX1_seekOnLastAxis_46 rfl ?_
        refine J_callV (k := 25) (rest := [.int (iI (n2)), .int (iI (n1)), .int (iI (n0)), .ref (jad G 25)]) C (c_reason hG S n0 n1 (n2) hk hd ha f0 f1 f2) kc_X1_reason kl_X1_114 (by rw [hG.2]; decide) (by rw [hG.1]; rfl) rfl dX1_seekOnLastAxis_47 rfl rfl (by decide) (Nat.le_of_ble_eq_true rfl) (J_ki (fun v8 S8 h8 => ?_))
        obtain ⟨rfl, rfl⟩ := h8
        refine J_callV (k := 25) (rest := []) C (c_keep hG S (n0) (n1) (n2) (preason (pprove (S 1 4) (S 2) (S 3) (S 4) n0 n1 (n2)) (S 1 4 - 0).toNat 0 (pall (S 1 4)))) kc_X1_keep kl_X1_99 (by rw [hG.2]; decide) (by rw [hG.1]; rfl) rfl dX1_seekOnLastAxis_50 rfl rfl (by decide) (Nat.le_of_ble_eq_true rfl) (J_kv (fun S9 h9 => ?_))
        subst h9
        refine J_iconst C dX1_seekOnLastAxis_53 ?_
        exact J_zret R C dX1_seekOnLastAxis_54 (Or.inr rfl) (jPi.mk (hP1 n2 f2 (by assumption) (by assumption) hj))
theorem c_sol {G : jG} (hG : cG G) (S0 : jMem) (n0 n1 : Int) (hk : cOK S0) (hd : dOK S0) (f0 : isFn S0 0 n0) (f1 : isFn S0 1 n1) (hz : 0 ≤ S0 31 2 ∧ S0 31 2 < 2 ^ 21) : jM G yX1_seekOnLastAxis cX1_seekOnLastAxis 4 (some .boolean) 4 95 [.ref (jad G 25), .int (iI (n0)), .int (iI (n1))] S0 (jPi (fun v S' => keeps [25, 26, 30] S0 S' ∧ (∀ j, j ≠ 6 → S' 25 j = S0 25 j) ∧ ((v = 0 ∧ ∀ k, isFn S0 2 k → zbit (S0 31 2) k → ¬ pprove (S0 1 4) (S0 2) (S0 3) (S0 4) n0 n1 k (pall (S0 1 4))) ∨ (v = 1 ∧ ∃ k, isFn S0 2 k ∧ zbit (S0 31 2) k ∧ pprove (S0 1 4) (S0 2) (S0 3) (S0 4) n0 n1 k (pall (S0 1 4)) ∧ (∀ j, 0 ≤ j → j < k → zbit (S0 31 2) j → ¬ pprove (S0 1 4) (S0 2) (S0 3) (S0 4) n0 n1 j (pall (S0 1 4))) ∧ S' 26 0 = n0 ∧ S' 26 1 = n1 ∧ S' 26 2 = k ∧ S' 26 3 = preason (pprove (S0 1 4) (S0 2) (S0 3) (S0 4) n0 n1 k) (S0 1 4 - 0).toNat 0 (pall (S0 1 4)))))) := by
  refine jM.of (by decide) (Nat.le_of_ble_eq_true rfl) (fun E C R => ?_)
  show J E G 0 [(0, .ref (jad G 25)), (1, .int (iI (n0))), (2, .int (iI (n1)))] [] _
  refine J_aload_n C 0 dX1_seekOnLastAxis_0 rfl ?_
  refine J_iload_n C 1 dX1_seekOnLastAxis_1 rfl ?_
  refine J_iload_n C 2 dX1_seekOnLastAxis_2 rfl ?_
  refine J_callV (k := 25) (rest := []) C (c_choose hG S0 (n0) (n1) hk hd f0 f1) kc_X1_choose kl_X1_103 (by rw [hG.2]; decide) (by rw [hG.1]; rfl) rfl dX1_seekOnLastAxis_3 rfl rfl (by decide) (Nat.le_of_ble_eq_true rfl) (J_kv (fun S1 h1 => ?_))
  obtain ⟨k1, k2, k3⟩ := h1
  refine J_iconst C dX1_seekOnLastAxis_6 ?_
  refine J_istore_n (lv' := [(3, .int (iI (0))), (0, .ref (jad G 25)), (1, .int (iI (n0))), (2, .int (iI (n1)))]) C dX1_seekOnLastAxis_7 (by decide) rfl ?_
  refine J_lv [1, 2, 3, 0] rfl ?_
  have hk1 := k1.ok (by decide) hk
  have hd1 := hd.keeps k1 (by decide)
  have q1 : S1 1 = S0 1 := k1 1 (by decide)
  have q2 : S1 2 = S0 2 := k1 2 (by decide)
  have q3 : S1 3 = S0 3 := k1 3 (by decide)
  have q4 : S1 4 = S0 4 := k1 4 (by decide)
  have q31 : S1 31 = S0 31 := k1 31 (by decide)
  refine l_sol hG C S1 n0 n1 _ hk1 hd1 k3 (by rw [isFn, q2]; exact f0) (by rw [isFn, q2]; exact f1) (by rw [q31]; exact hz) (fun h => ?_) (fun k fk zk tk lk => ?_) R _ 0 rfl ⟨⟨Int.le_refl _, by have := hk1.2.1 2 (by omega) (by omega); omega⟩, fun j a1 a2 => by omega⟩
  · rw [q1, q2, q3, q4, q31] at h
    refine ⟨k1.wide (by decide), fun j hj => by rw [k2 j, if_neg hj], Or.inl ⟨rfl, fun k fk => h k (by rw [isFn, q2]; exact fk)⟩⟩
  · rw [q1, q2, q3, q4] at tk
    rw [q31] at zk
    rw [q1, q2, q3, q4, q31] at lk
    rw [isFn, q2] at fk
    refine ⟨(((((k1.wide (by decide)).up (by decide) _ _).up (by decide) _ _).up (by decide) _ _).up (by decide) _ _), fun j hj => ?_, Or.inr ⟨rfl, k, fk, zk, tk, lk, ?_, ?_, ?_, ?_⟩⟩
    · rw [up2_k _ _ _ (by decide), up2_k _ _ _ (by decide), up2_k _ _ _ (by decide), up2_k _ _ _ (by decide), k2 j, if_neg hj]
    · exact rd_a (by omega) (rd_a (by omega) (rd_a (by omega) (rd_e rfl)))
    · exact rd_a (by omega) (rd_a (by omega) (rd_e rfl))
    · exact rd_a (by omega) (rd_e rfl)
    · rw [q1, q2, q3, q4]; exact rd_e rfl
/-- no proof by functions that are tried, up to these -/
def noT (S : jMem) (n0 n1 : Int) : Prop := ∀ a b c, isFn S 0 a → isFn S 1 b → isFn S 2 c → zbit (S 31 0) a → zbit (S 31 1) b → zbit (S 31 2) c → (a < n0 ∨ (a = n0 ∧ b < n1)) → ¬ pprove (S 1 4) (S 2) (S 3) (S 4) a b c (pall (S 1 4))
theorem isProof_found {S : jMem} (hk : cOK S) (hd : dOK S) (t0 : trOK S 0) (t1 : trOK S 1) (t2 : trOK S 2) {n0 n1 k : Int} {g : Int → Int} (f0 : isFn S 0 n0) (f1 : isFn S 1 n1) (f2 : isFn S 2 k) (hT : pprove (S 1 4) (S 2) (S 3) (S 4) n0 n1 k (pall (S 1 4))) (hn : noT S n0 n1) (hl : ∀ j, 0 ≤ j → j < k → zbit (S 31 2) j → ¬ pprove (S 1 4) (S 2) (S 3) (S 4) n0 n1 j (pall (S 1 4))) (e0 : g 0 = n0) (e1 : g 1 = n1) (e2 : g 2 = k) (e3 : g 3 = preason (pprove (S 1 4) (S 2) (S 3) (S 4) n0 n1 k) (S 1 4 - 0).toNat 0 (pall (S 1 4))) : isProof (S 1 4) (S 2) (S 3) (S 4) g := by
  refine Or.inr ⟨n0, n1, k, f0, f1, f2, hT, fun a' b' c' fa fb fc hx ht => ?_, e0, e1, e2, e3⟩
  obtain ⟨a, b, c, ga, gb, gc, hp⟩ := tried_of hk hd t0 t1 t2 fa fb fc ht
  unfold lex3 at hx
  have ga2 := ga.2.1
  have gb2 := gb.2.1
  have gc2 := gc.2.1
  by_cases q : a < n0 ∨ (a = n0 ∧ b < n1)
  · exact hn a b c ga.1 gb.1 gc.1 ga.2.2 gb.2.2 gc.2.2 q hp
  · have ea : a = n0 := by omega
    have eb : b = n1 := by omega
    subst ea; subst eb
    exact hl c gc.1.1 (by omega) gc.2.2 hp
theorem isProof_none {S : jMem} (hk : cOK S) (hd : dOK S) (t0 : trOK S 0) (t1 : trOK S 1) (t2 : trOK S 2) {n0 : Int} {g : Int → Int} (h0 : S 2 0 / 2 * 2 < n0) (hn : noT S n0 0) (e : g 0 = -9 ∧ g 1 = -9 ∧ g 2 = -9 ∧ g 3 = -9) : isProof (S 1 4) (S 2) (S 3) (S 4) g := by
  refine Or.inl ⟨fun a' b' c' fa fb fc ht => ?_, e⟩
  obtain ⟨a, b, c, ga, gb, gc, hp⟩ := tried_of hk hd t0 t1 t2 fa fb fc ht
  exact hn a b c ga.1 gb.1 gc.1 ga.2.2 gb.2.2 gc.2.2 (Or.inl (by have := ga.1.2; omega)) hp
theorem trOK_far {S0 S : jMem} {a c : Int} (h : trOK S0 c) (ho : only 31 S0 S) (hj : ∀ j, j ≠ a → S 31 j = S0 31 j) (hc : c ≠ a) : trOK S c := by
  unfold trOK isFn at h ⊢
  rw [hj c hc, ho 2 (by decide)]
  refine ⟨h.1, fun n hn => ?_⟩
  rcases h.2 n hn with q | ⟨p, p1, p2, p3⟩
  · exact Or.inl q
  · exact Or.inr ⟨p, p1, p2, by rw [pdom_eq ho (by decide)]; exact p3⟩
theorem l_sp2 {E : jEnv} {G : jG} (hG : cG G) (C : jX E G cX1_seekProof 3 RX1 5 118) (S0 : jMem) (P : jMem → Prop) (hk : cOK S0) (hd : dOK S0) (t0 : trOK S0 0) (t1 : trOK S0 1) (t2 : trOK S0 2) (hP : ∀ S', keeps [25, 26, 30] S0 S' → (∀ j, j ≠ 6 → S' 25 j = S0 25 j) → isProof (S0 1 4) (S0 2) (S0 3) (S0 4) (S' 26) → P S') (n0 : Int) (hn0 : isFn S0 0 n0) (R : jR E G none (jPv P)) : ∀ (mm : Nat) (n1 : Int) (S : jMem), mm = (S0 2 1 / 2 * 2 + 1 - n1).toNat → (keeps [25, 26, 30] S0 S ∧ (∀ j, j ≠ 6 → S 25 j = S0 25 j) ∧ (0 ≤ n1 ∧ n1 ≤ S0 2 1 / 2 * 2 + 1) ∧ noT S0 n0 n1) → (∀ S', keeps [25, 26, 30] S0 S' → (∀ j, j ≠ 6 → S' 25 j = S0 25 j) → noT S0 (n0 + 1) 0 → J E G 91 [(0, .ref (jad G 25)), (1, .int (iI n0))] [] S') → J E G 48 [(0, .ref (jad G 25)), (1, .int (iI (n0))), (2, .int (iI (n1)))] [] S := by
  intro mm
  induction mm using Nat.strongRecOn with | ind mm ih => ?_
  intro n1 S hm hj K
  obtain ⟨k1, k2, hn1, hT⟩ := hj
  have q1 : S 1 = S0 1 := k1 1 (by decide)
  have q2 : S 2 = S0 2 := k1 2 (by decide)
  have q3 : S 3 = S0 3 := k1 3 (by decide)
  have q4 : S 4 = S0 4 := k1 4 (by decide)
  have q31 : S 31 = S0 31 := k1 31 (by decide)
  have hk2 := k1.ok (by decide) hk
  have hd2 := hd.keeps k1 (by decide)
  have l0 := hk.2.1 0 (by omega) (by omega)
  have l1 := hk.2.1 1 (by omega) (by omega)
  have l2 := hk.2.1 2 (by omega) (by omega)
  refine J_aload_n C 0 dX1_seekProof_48 rfl ?_
  refine J_iconst C dX1_seekProof_49 ?_
  refine J_iload_n C 1 dX1_seekProof_50 rfl ?_
  refine J_callV (k := 25) (rest := []) C (c_isTried hG S (0) (n0) (by rw [q31]; have := t0.1; omega) (by omega) (by omega)) kc_X1_isTried kl_X1_93 (by rw [hG.2]; decide) (by rw [hG.1]; rfl) rfl dX1_seekProof_51 rfl rfl (by decide) (Nat.le_of_ble_eq_true rfl) (J_ki (fun v1 S1 h1 => ?_))
  obtain ⟨rfl, rfl⟩ := h1
  refine J_top (b := bb (zbit (S0 31 (0)) (n0))) (by rw [q31]) ?_
  refine J_if_eq_b C 91 dX1_seekProof_54 (by decide) (fun h2 => ?_) (fun h2 => ?_)
  · refine J_lv [0, 1] rfl ?_
    refine K S k1 k2 (fun a b c fa fb fc za zb zc hc => ?_)
    by_cases e : a = n0
    · subst e; first | exact absurd za (by assumption) | exact hT a b c fa fb fc za zb zc (Or.inr ⟨rfl, by have := fb.2; omega⟩)
    · exact hT a b c fa fb fc za zb zc (by omega)
  · refine J_iload_n C 2 dX1_seekProof_57 rfl ?_
    refine J_aload_n C 0 dX1_seekProof_58 rfl ?_
    refine J_iconst C dX1_seekProof_59 ?_
    refine J_callV (k := 25) (rest := [.int (iI (n1))]) C (c_lastF hG S (1) hk2 (by omega)) kc_X1_lastFunction kl_X1_46 (by rw [hG.2]; decide) (by rw [hG.1]; rfl) rfl dX1_seekProof_60 rfl rfl (by decide) (Nat.le_of_ble_eq_true rfl) (J_ki (fun v3 S3 h3 => ?_))
    obtain ⟨rfl, rfl⟩ := h3
    refine J_top (b := S0 2 (1) / 2 * 2) (by rw [q2]) ?_
    refine J_icmp_gt C 91 dX1_seekProof_63 (by decide) (by omega) (by omega) (fun h4 => ?_) (fun h4 => ?_)
    · refine J_lv [0, 1] rfl ?_
      refine K S k1 k2 (fun a b c fa fb fc za zb zc hc => ?_)
      by_cases e : a = n0
      · subst e; first | exact absurd za (by assumption) | exact hT a b c fa fb fc za zb zc (Or.inr ⟨rfl, by have := fb.2; omega⟩)
      · exact hT a b c fa fb fc za zb zc (by omega)
    · refine J_aload_n C 0 dX1_seekProof_66 rfl ?_
      refine J_iconst C dX1_seekProof_67 ?_
      refine J_iload_n C 2 dX1_seekProof_68 rfl ?_
      refine J_callV (k := 25) (rest := []) C (c_isTried hG S (1) (n1) (by rw [q31]; have := t1.1; omega) (by omega) (by omega)) kc_X1_isTried kl_X1_93 (by rw [hG.2]; decide) (by rw [hG.1]; rfl) rfl dX1_seekProof_69 rfl rfl (by decide) (Nat.le_of_ble_eq_true rfl) (J_ki (fun v5 S5 h5 => ?_))
      obtain ⟨rfl, rfl⟩ := h5
      refine J_top (b := bb (zbit (S0 31 (1)) (n1))) (by rw [q31]) ?_
      refine J_if_eq_b C 85 dX1_seekProof_72 (by decide) (fun h6 => ?_) (fun h6 => ?_)
      · refine J_iinc (lv' := [(2, .int (iI (n1 + 1))), (0, .ref (jad G 25)), (1, .int (iI (n0)))]) C 2 dX1_seekProof_85 rfl (by decide) rfl ?_
        refine J_goto C 48 dX1_seekProof_88 (by decide) ?_
        refine J_lv [1, 2, 0] rfl ?_
        refine ih _ (by omega) (n1 + 1) S rfl ⟨k1, k2, by omega, fun a b c fa fb fc za zb zc hc => ?_⟩ K
        by_cases e : a = n0 ∧ b = n1
        · obtain ⟨rfl, rfl⟩ := e; exact absurd zb (by assumption)
        · exact hT a b c fa fb fc za zb zc (by omega)
      · refine J_aload_n C 0 dX1_seekProof_75 rfl ?_
        refine J_iload_n C 1 dX1_seekProof_76 rfl ?_
        refine J_iload_n C 2 dX1_seekProof_77 rfl ?_
        refine J_callV (k := 25) (rest := []) C (c_sol hG S (n0) (n1) hk2 hd2 (by rw [isFn, q2]; omega) (by rw [isFn, q2]; omega) (by rw [q31]; exact t2.1)) kc_X1_seekOnLastAxis kl_X1_96 (by rw [hG.2]; decide) (by rw [hG.1]; rfl) rfl dX1_seekProof_78 rfl rfl (by decide) (Nat.le_of_ble_eq_true rfl) (J_ki (fun v7 S7 h7 => ?_))
        obtain ⟨r1, r2, r3⟩ := h7
        rw [q1, q2, q3, q4, q31] at r3
        simp only [isFn, q2] at r3
        have kk := k1.tr r1
        have kj : ∀ j, j ≠ 6 → S7 25 j = S0 25 j := fun j hj => (r2 j hj).trans (k2 j hj)
        have hv : v7 = 0 ∨ v7 = 1 := by rcases r3 with r3 | r3 <;> omega
        refine J_if_eq C 85 dX1_seekProof_81 (by decide) (by omega) (fun h8 => ?_) (fun h8 => ?_)
        · refine J_iinc (lv' := [(2, .int (iI (n1 + 1))), (0, .ref (jad G 25)), (1, .int (iI (n0)))]) C 2 dX1_seekProof_85 rfl (by decide) rfl ?_
          refine J_goto C 48 dX1_seekProof_88 (by decide) ?_
          refine J_lv [1, 2, 0] rfl ?_
          have r4 := (r3.resolve_right (fun q => by have := q.1; omega)).2
          refine ih _ (by omega) (n1 + 1) S7 rfl ⟨kk, kj, by omega, fun a b c fa fb fc za zb zc hc => ?_⟩ K
          by_cases e : a = n0 ∧ b = n1
          · obtain ⟨rfl, rfl⟩ := e; exact r4 c fc zc
          · exact hT a b c fa fb fc za zb zc (by omega)
        · have r4 := (r3.resolve_left (fun q => by have := q.1; omega)).2
          obtain ⟨k, fk, zk, tk, lk, e0, e1, e2, e3⟩ := r4
          exact J_vret R C dX1_seekProof_84 (jPv.mk (hP _ kk kj (isProof_found hk hd t0 t1 t2 hn0 (by rw [isFn]; omega) fk tk hT lk e0 e1 e2 e3)))
theorem l_sp1 {E : jEnv} {G : jG} (hG : cG G) (C : jX E G cX1_seekProof 3 RX1 5 118) (S0 : jMem) (P : jMem → Prop) (hk : cOK S0) (hd : dOK S0) (t0 : trOK S0 0) (t1 : trOK S0 1) (t2 : trOK S0 2) (hP : ∀ S', keeps [25, 26, 30] S0 S' → (∀ j, j ≠ 6 → S' 25 j = S0 25 j) → isProof (S0 1 4) (S0 2) (S0 3) (S0 4) (S' 26) → P S') (R : jR E G none (jPv P)) : ∀ (mm : Nat) (n0 : Int) (S : jMem), mm = (S0 2 0 / 2 * 2 + 1 - n0).toNat → (keeps [25, 26, 30] S0 S ∧ (∀ j, j ≠ 6 → S 25 j = S0 25 j) ∧ (0 ≤ n0 ∧ n0 ≤ S0 2 0 / 2 * 2 + 1) ∧ noT S0 n0 0) → J E G 37 [(0, .ref (jad G 25)), (1, .int (iI (n0)))] [] S := by
  intro mm
  induction mm using Nat.strongRecOn with | ind mm ih => ?_
  intro n0 S hm hj
  obtain ⟨k1, k2, hn0, hT⟩ := hj
  have q1 : S 1 = S0 1 := k1 1 (by decide)
  have q2 : S 2 = S0 2 := k1 2 (by decide)
  have q3 : S 3 = S0 3 := k1 3 (by decide)
  have q4 : S 4 = S0 4 := k1 4 (by decide)
  have q31 : S 31 = S0 31 := k1 31 (by decide)
  have hk2 := k1.ok (by decide) hk
  have hd2 := hd.keeps k1 (by decide)
  have l0 := hk.2.1 0 (by omega) (by omega)
  have l1 := hk.2.1 1 (by omega) (by omega)
  have l2 := hk.2.1 2 (by omega) (by omega)
  refine J_iload_n C 1 dX1_seekProof_37 rfl ?_
  refine J_aload_n C 0 dX1_seekProof_38 rfl ?_
  refine J_iconst C dX1_seekProof_39 ?_
  refine J_callV (k := 25) (rest := [.int (iI (n0))]) C (c_lastF hG S (0) hk2 (by omega)) kc_X1_lastFunction kl_X1_46 (by rw [hG.2]; decide) (by rw [hG.1]; rfl) rfl dX1_seekProof_40 rfl rfl (by decide) (Nat.le_of_ble_eq_true rfl) (J_ki (fun v1 S1 h1 => ?_))
  obtain ⟨rfl, rfl⟩ := h1
  refine J_top (b := S0 2 (0) / 2 * 2) (by rw [q2]) ?_
  refine J_icmp_gt C 97 dX1_seekProof_43 (by decide) (by omega) (by omega) (fun h2 => ?_) (fun h2 => ?_)
  · refine J_aload_n C 0 dX1_seekProof_97 rfl ?_
    refine J_bipush C dX1_seekProof_98 (by decide) ?_
    refine J_bipush C dX1_seekProof_100 (by decide) ?_
    refine J_bipush C dX1_seekProof_102 (by decide) ?_
    refine J_bipush C dX1_seekProof_104 (by decide) ?_
    refine J_callV (k := 25) (rest := []) C (c_keep hG S (-9) (-9) (-9) (-9)) kc_X1_keep kl_X1_99 (by rw [hG.2]; decide) (by rw [hG.1]; rfl) rfl dX1_seekProof_106 rfl rfl (by decide) (Nat.le_of_ble_eq_true rfl) (J_kv (fun S3 h3 => ?_))
    subst h3
    refine J_vret R C dX1_seekProof_109 (jPv.mk (hP _ ((((k1.up (by decide) _ _).up (by decide) _ _).up (by decide) _ _).up (by decide) _ _) (fun j hj => ?_) (isProof_none hk hd t0 t1 t2 (n0 := n0) (by omega) hT ⟨?_, ?_, ?_, ?_⟩)))
    · rw [up2_k _ _ _ (by decide), up2_k _ _ _ (by decide), up2_k _ _ _ (by decide), up2_k _ _ _ (by decide)]; exact k2 j hj
    · exact rd_a (by omega) (rd_a (by omega) (rd_a (by omega) (rd_e rfl)))
    · exact rd_a (by omega) (rd_a (by omega) (rd_e rfl))
    · exact rd_a (by omega) (rd_e rfl)
    · exact rd_e rfl
  · refine J_iconst C dX1_seekProof_46 ?_
    refine J_istore_n (lv' := [(2, .int (iI (0))), (0, .ref (jad G 25)), (1, .int (iI (n0)))]) C dX1_seekProof_47 (by decide) rfl ?_
    refine J_lv [1, 2, 0] rfl ?_
    refine l_sp2 hG C S0 P hk hd t0 t1 t2 hP n0 (by rw [isFn]; omega) R _ 0 S rfl ⟨k1, k2, by omega, hT⟩ (fun S2 p1 p2 p3 => ?_)
    refine J_iinc (lv' := [(1, .int (iI (n0 + 1))), (0, .ref (jad G 25))]) C 1 dX1_seekProof_91 rfl (by decide) rfl ?_
    refine J_goto C 37 dX1_seekProof_94 (by decide) ?_
    refine J_lv [1, 0] rfl ?_
    exact ih _ (by omega) (n0 + 1) S2 rfl ⟨p1, p2, by omega, p3⟩
theorem c_seekProof {G : jG} (hG : cG G) (S0 : jMem) (hk : cOK S0) (hp : S0 25 8 = 0 ∨ (S0 25 8 = 1 ∧ dOK S0)) (hs : S0 25 9 = 0 ∨ (S0 25 9 = 1 ∧ isProof (S0 1 4) (S0 2) (S0 3) (S0 4) (S0 26))) : jM G yX1_seekProof cX1_seekProof 3 none 5 118 [.ref (jad G 25)] S0 (jPv (fun S' => keeps [25, 26, 27, 28, 29, 30, 31] S0 S' ∧ (S' 25 8 = 0 ∨ (S' 25 8 = 1 ∧ dOK S')) ∧ S' 25 9 = 1 ∧ isProof (S' 1 4) (S' 2) (S' 3) (S' 4) (S' 26))) := by
  refine jM.of (by decide) (Nat.le_of_ble_eq_true rfl) (fun E C R => ?_)
  show J E G 0 [(0, .ref (jad G 25))] [] _
  refine J_aload_n C 0 dX1_seekProof_0 rfl ?_
  refine g_X1_38 hG C dX1_seekProof_1 ?_
  refine J_if_eq C 8 dX1_seekProof_4 (by decide) (by omega) (fun h1 => ?_) (fun h1 => ?_)
  · have kA : keeps [25] S0 (up2 S0 25 9 1) := keeps.rf.up (by decide) _ _
    have hkA := kA.ok (by decide) hk
    refine J_aload_n C 0 dX1_seekProof_8 rfl ?_
    refine J_iconst C dX1_seekProof_9 ?_
    refine p_X1_38 hG C (by first | exact Or.inl rfl | exact Or.inr rfl | omega) dX1_seekProof_10 ?_
    refine J_aload_n C 0 dX1_seekProof_13 rfl ?_
    refine J_callV (k := 25) (rest := []) C (c_prepare hG (up2 S0 25 (9) (1)) hkA (by rcases hp with q | q; exact Or.inl q; exact Or.inr ⟨q.1, q.2.keeps kA (by decide)⟩)) kc_X1_prepare kl_X1_87 (by rw [hG.2]; decide) (by rw [hG.1]; rfl) rfl dX1_seekProof_14 rfl rfl (by decide) (Nat.le_of_ble_eq_true rfl) (J_kv (fun S2 h2 => ?_))
    obtain ⟨dB, kB, jB⟩ := h2
    have hkB := kB.ok (by decide) hkA
    refine J_iconst C dX1_seekProof_17 ?_
    refine J_istore_n (lv' := [(1, .int (iI (0))), (0, .ref (jad G 25))]) C dX1_seekProof_18 (by decide) rfl ?_
    refine J_iload_n C 0 dX1_seekProof_19 rfl ?_
    refine J_iconst C dX1_seekProof_20 ?_
    refine J_icmp_ge C 35 dX1_seekProof_21 (by decide) (by omega) (by omega) (fun h => absurd h (by omega)) (fun _ => ?_)
    refine J_aload_n C 1 dX1_seekProof_24 rfl ?_
    refine J_iload_n C 0 dX1_seekProof_25 rfl ?_
    refine J_callV (k := 25) (rest := []) C (c_idle hG S2 (0) hkB dB (by omega)) kc_X1_leaveOutIdle kl_X1_90 (by rw [hG.2]; decide) (by rw [hG.1]; rfl) rfl dX1_seekProof_26 rfl rfl (by decide) (Nat.le_of_ble_eq_true rfl) (J_kv (fun S4 h4 => ?_))
    obtain ⟨o0, j0, t0⟩ := h4
    have hk0 := o0.ok (by decide) hkB
    have d0 := o0.dok dB
    refine J_iinc (lv' := [(1, .int (iI (1))), (0, .ref (jad G 25))]) C 0 dX1_seekProof_29 rfl (by decide) rfl ?_
    refine J_goto C 19 dX1_seekProof_32 (by decide) ?_
    refine J_iload_n C 0 dX1_seekProof_19 rfl ?_
    refine J_iconst C dX1_seekProof_20 ?_
    refine J_icmp_ge C 35 dX1_seekProof_21 (by decide) (by omega) (by omega) (fun h => absurd h (by omega)) (fun _ => ?_)
    refine J_aload_n C 1 dX1_seekProof_24 rfl ?_
    refine J_iload_n C 0 dX1_seekProof_25 rfl ?_
    refine J_callV (k := 25) (rest := []) C (c_idle hG S4 (1) hk0 d0 (by omega)) kc_X1_leaveOutIdle kl_X1_90 (by rw [hG.2]; decide) (by rw [hG.1]; rfl) rfl dX1_seekProof_26 rfl rfl (by decide) (Nat.le_of_ble_eq_true rfl) (J_kv (fun S6 h6 => ?_))
    obtain ⟨o1, j1, t1⟩ := h6
    have hk1 := o1.ok (by decide) hk0
    have d1 := o1.dok d0
    refine J_iinc (lv' := [(1, .int (iI (2))), (0, .ref (jad G 25))]) C 0 dX1_seekProof_29 rfl (by decide) rfl ?_
    refine J_goto C 19 dX1_seekProof_32 (by decide) ?_
    refine J_iload_n C 0 dX1_seekProof_19 rfl ?_
    refine J_iconst C dX1_seekProof_20 ?_
    refine J_icmp_ge C 35 dX1_seekProof_21 (by decide) (by omega) (by omega) (fun h => absurd h (by omega)) (fun _ => ?_)
    refine J_aload_n C 1 dX1_seekProof_24 rfl ?_
    refine J_iload_n C 0 dX1_seekProof_25 rfl ?_
    refine J_callV (k := 25) (rest := []) C (c_idle hG S6 (2) hk1 d1 (by omega)) kc_X1_leaveOutIdle kl_X1_90 (by rw [hG.2]; decide) (by rw [hG.1]; rfl) rfl dX1_seekProof_26 rfl rfl (by decide) (Nat.le_of_ble_eq_true rfl) (J_kv (fun S8 h8 => ?_))
    obtain ⟨o2, j2, t2⟩ := h8
    have hk2 := o2.ok (by decide) hk1
    have d2 := o2.dok d1
    refine J_iinc (lv' := [(1, .int (iI (3))), (0, .ref (jad G 25))]) C 0 dX1_seekProof_29 rfl (by decide) rfl ?_
    refine J_goto C 19 dX1_seekProof_32 (by decide) ?_
    refine J_iload_n C 0 dX1_seekProof_19 rfl ?_
    refine J_iconst C dX1_seekProof_20 ?_
    refine J_icmp_ge C 35 dX1_seekProof_21 (by decide) (by omega) (by omega) (fun _ => ?_) (fun h => absurd h (by omega))
    refine J_iconst C dX1_seekProof_35 ?_
    refine J_istore_n (lv' := [(1, .int (iI (0))), (0, .ref (jad G 25))]) C dX1_seekProof_36 (by decide) rfl ?_
    refine J_lv [1, 0] rfl ?_
    have hL := hk2.2.1 0 (by omega) (by omega)
    have kC : keeps [25, 26, 27, 28, 29, 30, 31] S0 S8 := (((kA.wide (by decide)).tr (kB.wide (by decide))).on (by decide) o0 |>.on (by decide) o1).on (by decide) o2
    refine l_sp1 hG C S8 _ hk2 d2 (trOK_far (trOK_far t0 o1 j1 (by decide)) o2 j2 (by decide)) (trOK_far t1 o2 j2 (by decide)) t2 (fun S' p1 p2 p3 => ?_) R _ 0 S8 rfl ⟨keeps.rf, fun _ _ => rfl, by omega, fun a b c fa fb fc za zb zc hc => by have := fa.1; have := fb.1; omega⟩
    have e25 : ∀ j, j ≠ 6 → S' 25 j = if j = 8 then 1 else up2 S0 25 9 1 25 j := fun j hj => by rw [p2 j hj, o2 25 (by decide), o1 25 (by decide), o0 25 (by decide), jB j]
    refine ⟨kC.tr (p1.wide (by decide)), Or.inr ⟨by rw [e25 8 (by decide), if_pos rfl], d2.keeps p1 (by decide)⟩, ?_, ?_⟩
    · rw [e25 9 (by decide), if_neg (by decide), up2_eq]
    · rw [p1 1 (by decide), p1 2 (by decide), p1 3 (by decide), p1 4 (by decide)]; exact p3
  · rcases hs with hs | hs
    · omega
    exact J_vret R C dX1_seekProof_7 (jPv.mk ⟨keeps.rf, hp, hs.1, hs.2⟩)
end
section
theorem dX6_init_0 : decode cX6_init 0 = .ok (.aload_n 0, 1) := by decide +kernel
theorem dX6_init_1 : decode cX6_init 1 = .ok (.invokespecial 1, 3) := by decide +kernel
theorem dX6_init_4 : decode cX6_init 4 = .ok (.aload_n 0, 1) := by decide +kernel
theorem dX6_init_5 : decode cX6_init 5 = .ok (.iconst 3, 1) := by decide +kernel
theorem dX6_init_6 : decode cX6_init 6 = .ok (.newarray .int, 2) := by decide +kernel
theorem dX6_init_8 : decode cX6_init 8 = .ok (.dup, 1) := by decide +kernel
theorem dX6_init_9 : decode cX6_init 9 = .ok (.iconst 0, 1) := by decide +kernel
theorem dX6_init_10 : decode cX6_init 10 = .ok (.bipush 10, 2) := by decide +kernel
theorem dX6_init_12 : decode cX6_init 12 = .ok (.iastore, 1) := by decide +kernel
theorem dX6_init_13 : decode cX6_init 13 = .ok (.dup, 1) := by decide +kernel
theorem dX6_init_14 : decode cX6_init 14 = .ok (.iconst 1, 1) := by decide +kernel
theorem dX6_init_15 : decode cX6_init 15 = .ok (.bipush 10, 2) := by decide +kernel
theorem dX6_init_17 : decode cX6_init 17 = .ok (.iastore, 1) := by decide +kernel
theorem dX6_init_18 : decode cX6_init 18 = .ok (.dup, 1) := by decide +kernel
theorem dX6_init_19 : decode cX6_init 19 = .ok (.iconst 2, 1) := by decide +kernel
theorem dX6_init_20 : decode cX6_init 20 = .ok (.bipush 10, 2) := by decide +kernel
theorem dX6_init_22 : decode cX6_init 22 = .ok (.iastore, 1) := by decide +kernel
theorem dX6_init_23 : decode cX6_init 23 = .ok (.putfield 7, 3) := by decide +kernel
theorem dX6_init_26 : decode cX6_init 26 = .ok (.aload_n 0, 1) := by decide +kernel
theorem dX6_init_27 : decode cX6_init 27 = .ok (.bipush 24, 2) := by decide +kernel
theorem dX6_init_29 : decode cX6_init 29 = .ok (.newarray .int, 2) := by decide +kernel
theorem dX6_init_31 : decode cX6_init 31 = .ok (.putfield 13, 3) := by decide +kernel
theorem dX6_init_34 : decode cX6_init 34 = .ok (.aload_n 0, 1) := by decide +kernel
theorem dX6_init_35 : decode cX6_init 35 = .ok (.bipush 8, 2) := by decide +kernel
theorem dX6_init_37 : decode cX6_init 37 = .ok (.newarray .int, 2) := by decide +kernel
theorem dX6_init_39 : decode cX6_init 39 = .ok (.putfield 16, 3) := by decide +kernel
theorem dX6_init_42 : decode cX6_init 42 = .ok (.aload_n 0, 1) := by decide +kernel
theorem dX6_init_43 : decode cX6_init 43 = .ok (.bipush 8, 2) := by decide +kernel
theorem dX6_init_45 : decode cX6_init 45 = .ok (.newarray .int, 2) := by decide +kernel
theorem dX6_init_47 : decode cX6_init 47 = .ok (.putfield 19, 3) := by decide +kernel
theorem dX6_init_50 : decode cX6_init 50 = .ok (.aload_n 0, 1) := by decide +kernel
theorem dX6_init_51 : decode cX6_init 51 = .ok (.bipush 8, 2) := by decide +kernel
theorem dX6_init_53 : decode cX6_init 53 = .ok (.newarray .int, 2) := by decide +kernel
theorem dX6_init_55 : decode cX6_init 55 = .ok (.putfield 22, 3) := by decide +kernel
theorem dX6_init_58 : decode cX6_init 58 = .ok (.aload_n 0, 1) := by decide +kernel
theorem dX6_init_59 : decode cX6_init 59 = .ok (.bipush 24, 2) := by decide +kernel
theorem dX6_init_61 : decode cX6_init 61 = .ok (.newarray .int, 2) := by decide +kernel
theorem dX6_init_63 : decode cX6_init 63 = .ok (.putfield 25, 3) := by decide +kernel
theorem dX6_init_66 : decode cX6_init 66 = .ok (.aload_n 0, 1) := by decide +kernel
theorem dX6_init_67 : decode cX6_init 67 = .ok (.bipush 8, 2) := by decide +kernel
theorem dX6_init_69 : decode cX6_init 69 = .ok (.newarray .int, 2) := by decide +kernel
theorem dX6_init_71 : decode cX6_init 71 = .ok (.putfield 28, 3) := by decide +kernel
theorem dX6_init_74 : decode cX6_init 74 = .ok (.aload_n 0, 1) := by decide +kernel
theorem dX6_init_75 : decode cX6_init 75 = .ok (.bipush 8, 2) := by decide +kernel
theorem dX6_init_77 : decode cX6_init 77 = .ok (.newarray .int, 2) := by decide +kernel
theorem dX6_init_79 : decode cX6_init 79 = .ok (.putfield 31, 3) := by decide +kernel
theorem dX6_init_82 : decode cX6_init 82 = .ok (.aload_n 0, 1) := by decide +kernel
theorem dX6_init_83 : decode cX6_init 83 = .ok (.bipush 8, 2) := by decide +kernel
theorem dX6_init_85 : decode cX6_init 85 = .ok (.newarray .int, 2) := by decide +kernel
theorem dX6_init_87 : decode cX6_init 87 = .ok (.putfield 34, 3) := by decide +kernel
theorem dX6_init_90 : decode cX6_init 90 = .ok (.aload_n 0, 1) := by decide +kernel
theorem dX6_init_91 : decode cX6_init 91 = .ok (.bipush 24, 2) := by decide +kernel
theorem dX6_init_93 : decode cX6_init 93 = .ok (.newarray .int, 2) := by decide +kernel
theorem dX6_init_95 : decode cX6_init 95 = .ok (.putfield 37, 3) := by decide +kernel
theorem dX6_init_98 : decode cX6_init 98 = .ok (.aload_n 0, 1) := by decide +kernel
theorem dX6_init_99 : decode cX6_init 99 = .ok (.sipush 3408, 3) := by decide +kernel
theorem dX6_init_102 : decode cX6_init 102 = .ok (.newarray .boolean, 2) := by decide +kernel
theorem dX6_init_104 : decode cX6_init 104 = .ok (.putfield 40, 3) := by decide +kernel
theorem dX6_init_107 : decode cX6_init 107 = .ok (.aload_n 0, 1) := by decide +kernel
theorem dX6_init_108 : decode cX6_init 108 = .ok (.sipush 144, 3) := by decide +kernel
theorem dX6_init_111 : decode cX6_init 111 = .ok (.newarray .int, 2) := by decide +kernel
theorem dX6_init_113 : decode cX6_init 113 = .ok (.putfield 44, 3) := by decide +kernel
theorem dX6_init_116 : decode cX6_init 116 = .ok (.aload_n 0, 1) := by decide +kernel
theorem dX6_init_117 : decode cX6_init 117 = .ok (.bipush 48, 2) := by decide +kernel
theorem dX6_init_119 : decode cX6_init 119 = .ok (.newarray .int, 2) := by decide +kernel
theorem dX6_init_121 : decode cX6_init 121 = .ok (.putfield 47, 3) := by decide +kernel
theorem dX6_init_124 : decode cX6_init 124 = .ok (.aload_n 0, 1) := by decide +kernel
theorem dX6_init_125 : decode cX6_init 125 = .ok (.bipush 20, 2) := by decide +kernel
theorem dX6_init_127 : decode cX6_init 127 = .ok (.newarray .int, 2) := by decide +kernel
theorem dX6_init_129 : decode cX6_init 129 = .ok (.putfield 50, 3) := by decide +kernel
theorem dX6_init_132 : decode cX6_init 132 = .ok (.aload_n 0, 1) := by decide +kernel
theorem dX6_init_133 : decode cX6_init 133 = .ok (.bipush 20, 2) := by decide +kernel
theorem dX6_init_135 : decode cX6_init 135 = .ok (.newarray .int, 2) := by decide +kernel
theorem dX6_init_137 : decode cX6_init 137 = .ok (.putfield 53, 3) := by decide +kernel
theorem dX6_init_140 : decode cX6_init 140 = .ok (.aload_n 0, 1) := by decide +kernel
theorem dX6_init_141 : decode cX6_init 141 = .ok (.bipush 20, 2) := by decide +kernel
theorem dX6_init_143 : decode cX6_init 143 = .ok (.newarray .int, 2) := by decide +kernel
theorem dX6_init_145 : decode cX6_init 145 = .ok (.putfield 56, 3) := by decide +kernel
theorem dX6_init_148 : decode cX6_init 148 = .ok (.aload_n 0, 1) := by decide +kernel
theorem dX6_init_149 : decode cX6_init 149 = .ok (.bipush 20, 2) := by decide +kernel
theorem dX6_init_151 : decode cX6_init 151 = .ok (.newarray .int, 2) := by decide +kernel
theorem dX6_init_153 : decode cX6_init 153 = .ok (.putfield 59, 3) := by decide +kernel
theorem dX6_init_156 : decode cX6_init 156 = .ok (.aload_n 0, 1) := by decide +kernel
theorem dX6_init_157 : decode cX6_init 157 = .ok (.bipush 20, 2) := by decide +kernel
theorem dX6_init_159 : decode cX6_init 159 = .ok (.newarray .int, 2) := by decide +kernel
theorem dX6_init_161 : decode cX6_init 161 = .ok (.putfield 62, 3) := by decide +kernel
theorem dX6_init_164 : decode cX6_init 164 = .ok (.aload_n 0, 1) := by decide +kernel
theorem dX6_init_165 : decode cX6_init 165 = .ok (.bipush 20, 2) := by decide +kernel
theorem dX6_init_167 : decode cX6_init 167 = .ok (.newarray .int, 2) := by decide +kernel
theorem dX6_init_169 : decode cX6_init 169 = .ok (.putfield 65, 3) := by decide +kernel
theorem dX6_init_172 : decode cX6_init 172 = .ok (.aload_n 0, 1) := by decide +kernel
theorem dX6_init_173 : decode cX6_init 173 = .ok (.bipush 20, 2) := by decide +kernel
theorem dX6_init_175 : decode cX6_init 175 = .ok (.newarray .int, 2) := by decide +kernel
theorem dX6_init_177 : decode cX6_init 177 = .ok (.putfield 68, 3) := by decide +kernel
theorem dX6_init_180 : decode cX6_init 180 = .ok (.aload_n 0, 1) := by decide +kernel
theorem dX6_init_181 : decode cX6_init 181 = .ok (.iconst 4, 1) := by decide +kernel
theorem dX6_init_182 : decode cX6_init 182 = .ok (.newarray .int, 2) := by decide +kernel
theorem dX6_init_184 : decode cX6_init 184 = .ok (.putfield 71, 3) := by decide +kernel
theorem dX6_init_187 : decode cX6_init 187 = .ok (.aload_n 0, 1) := by decide +kernel
theorem dX6_init_188 : decode cX6_init 188 = .ok (.invokevirtual 74, 3) := by decide +kernel
theorem dX6_init_191 : decode cX6_init 191 = .ok (.return_, 1) := by decide +kernel
theorem dX6_sideOf_0 : decode cX6_sideOf 0 = .ok (.iload_n 0, 1) := by decide +kernel
theorem dX6_sideOf_1 : decode cX6_sideOf 1 = .ok (.ifCond .ne 8, 3) := by decide +kernel
theorem dX6_sideOf_4 : decode cX6_sideOf 4 = .ok (.bipush 12, 2) := by decide +kernel
theorem dX6_sideOf_6 : decode cX6_sideOf 6 = .ok (.goto 47, 3) := by decide +kernel
theorem dX6_sideOf_9 : decode cX6_sideOf 9 = .ok (.iload_n 0, 1) := by decide +kernel
theorem dX6_sideOf_10 : decode cX6_sideOf 10 = .ok (.iconst 1, 1) := by decide +kernel
theorem dX6_sideOf_11 : decode cX6_sideOf 11 = .ok (.if_icmp .ne 8, 3) := by decide +kernel
theorem dX6_sideOf_14 : decode cX6_sideOf 14 = .ok (.bipush 21, 2) := by decide +kernel
theorem dX6_sideOf_16 : decode cX6_sideOf 16 = .ok (.goto 37, 3) := by decide +kernel
theorem dX6_sideOf_19 : decode cX6_sideOf 19 = .ok (.iload_n 0, 1) := by decide +kernel
theorem dX6_sideOf_20 : decode cX6_sideOf 20 = .ok (.iconst 2, 1) := by decide +kernel
theorem dX6_sideOf_21 : decode cX6_sideOf 21 = .ok (.if_icmp .ne 8, 3) := by decide +kernel
theorem dX6_sideOf_24 : decode cX6_sideOf 24 = .ok (.bipush 102, 2) := by decide +kernel
theorem dX6_sideOf_26 : decode cX6_sideOf 26 = .ok (.goto 27, 3) := by decide +kernel
theorem dX6_sideOf_29 : decode cX6_sideOf 29 = .ok (.iload_n 0, 1) := by decide +kernel
theorem dX6_sideOf_30 : decode cX6_sideOf 30 = .ok (.iconst 3, 1) := by decide +kernel
theorem dX6_sideOf_31 : decode cX6_sideOf 31 = .ok (.if_icmp .ne 8, 3) := by decide +kernel
theorem dX6_sideOf_34 : decode cX6_sideOf 34 = .ok (.bipush 120, 2) := by decide +kernel
theorem dX6_sideOf_36 : decode cX6_sideOf 36 = .ok (.goto 17, 3) := by decide +kernel
theorem dX6_sideOf_39 : decode cX6_sideOf 39 = .ok (.iload_n 0, 1) := by decide +kernel
theorem dX6_sideOf_40 : decode cX6_sideOf 40 = .ok (.iconst 4, 1) := by decide +kernel
theorem dX6_sideOf_41 : decode cX6_sideOf 41 = .ok (.if_icmp .ne 9, 3) := by decide +kernel
theorem dX6_sideOf_44 : decode cX6_sideOf 44 = .ok (.sipush 201, 3) := by decide +kernel
theorem dX6_sideOf_47 : decode cX6_sideOf 47 = .ok (.goto 6, 3) := by decide +kernel
theorem dX6_sideOf_50 : decode cX6_sideOf 50 = .ok (.sipush 210, 3) := by decide +kernel
theorem dX6_sideOf_53 : decode cX6_sideOf 53 = .ok (.istore_n 2, 1) := by decide +kernel
theorem dX6_sideOf_54 : decode cX6_sideOf 54 = .ok (.iload_n 1, 1) := by decide +kernel
theorem dX6_sideOf_55 : decode cX6_sideOf 55 = .ok (.ifCond .ne 10, 3) := by decide +kernel
theorem dX6_sideOf_58 : decode cX6_sideOf 58 = .ok (.iload_n 2, 1) := by decide +kernel
theorem dX6_sideOf_59 : decode cX6_sideOf 59 = .ok (.bipush 100, 2) := by decide +kernel
theorem dX6_sideOf_61 : decode cX6_sideOf 61 = .ok (.idiv, 1) := by decide +kernel
theorem dX6_sideOf_62 : decode cX6_sideOf 62 = .ok (.goto 22, 3) := by decide +kernel
theorem dX6_sideOf_65 : decode cX6_sideOf 65 = .ok (.iload_n 1, 1) := by decide +kernel
theorem dX6_sideOf_66 : decode cX6_sideOf 66 = .ok (.iconst 1, 1) := by decide +kernel
theorem dX6_sideOf_67 : decode cX6_sideOf 67 = .ok (.if_icmp .ne 13, 3) := by decide +kernel
theorem dX6_sideOf_70 : decode cX6_sideOf 70 = .ok (.iload_n 2, 1) := by decide +kernel
theorem dX6_sideOf_71 : decode cX6_sideOf 71 = .ok (.bipush 10, 2) := by decide +kernel
theorem dX6_sideOf_73 : decode cX6_sideOf 73 = .ok (.idiv, 1) := by decide +kernel
theorem dX6_sideOf_74 : decode cX6_sideOf 74 = .ok (.bipush 10, 2) := by decide +kernel
theorem dX6_sideOf_76 : decode cX6_sideOf 76 = .ok (.irem, 1) := by decide +kernel
theorem dX6_sideOf_77 : decode cX6_sideOf 77 = .ok (.goto 7, 3) := by decide +kernel
theorem dX6_sideOf_80 : decode cX6_sideOf 80 = .ok (.iload_n 2, 1) := by decide +kernel
theorem dX6_sideOf_81 : decode cX6_sideOf 81 = .ok (.bipush 10, 2) := by decide +kernel
theorem dX6_sideOf_83 : decode cX6_sideOf 83 = .ok (.irem, 1) := by decide +kernel
theorem dX6_sideOf_84 : decode cX6_sideOf 84 = .ok (.ireturn, 1) := by decide +kernel
theorem dX6_extent_0 : decode cX6_extent 0 = .ok (.aload_n 0, 1) := by decide +kernel
theorem dX6_extent_1 : decode cX6_extent 1 = .ok (.getfield 13, 3) := by decide +kernel
theorem dX6_extent_4 : decode cX6_extent 4 = .ok (.iconst 3, 1) := by decide +kernel
theorem dX6_extent_5 : decode cX6_extent 5 = .ok (.iload_n 1, 1) := by decide +kernel
theorem dX6_extent_6 : decode cX6_extent 6 = .ok (.imul, 1) := by decide +kernel
theorem dX6_extent_7 : decode cX6_extent 7 = .ok (.iload_n 2, 1) := by decide +kernel
theorem dX6_extent_8 : decode cX6_extent 8 = .ok (.iload_n 3, 1) := by decide +kernel
theorem dX6_extent_9 : decode cX6_extent 9 = .ok (.invokestatic 77, 3) := by decide +kernel
theorem dX6_extent_12 : decode cX6_extent 12 = .ok (.iadd, 1) := by decide +kernel
theorem dX6_extent_13 : decode cX6_extent 13 = .ok (.iaload, 1) := by decide +kernel
theorem dX6_extent_14 : decode cX6_extent 14 = .ok (.ireturn, 1) := by decide +kernel
theorem dX6_has_0 : decode cX6_has 0 = .ok (.aload_n 0, 1) := by decide +kernel
theorem dX6_has_1 : decode cX6_has 1 = .ok (.getfield 19, 3) := by decide +kernel
theorem dX6_has_4 : decode cX6_has 4 = .ok (.iload_n 1, 1) := by decide +kernel
theorem dX6_has_5 : decode cX6_has 5 = .ok (.iaload, 1) := by decide +kernel
theorem dX6_has_6 : decode cX6_has 6 = .ok (.iload_n 2, 1) := by decide +kernel
theorem dX6_has_7 : decode cX6_has 7 = .ok (.ishr, 1) := by decide +kernel
theorem dX6_has_8 : decode cX6_has 8 = .ok (.iconst 1, 1) := by decide +kernel
theorem dX6_has_9 : decode cX6_has 9 = .ok (.iand, 1) := by decide +kernel
theorem dX6_has_10 : decode cX6_has 10 = .ok (.iconst 1, 1) := by decide +kernel
theorem dX6_has_11 : decode cX6_has 11 = .ok (.if_icmp .ne 7, 3) := by decide +kernel
theorem dX6_has_14 : decode cX6_has 14 = .ok (.iconst 1, 1) := by decide +kernel
theorem dX6_has_15 : decode cX6_has 15 = .ok (.goto 4, 3) := by decide +kernel
theorem dX6_has_18 : decode cX6_has 18 = .ok (.iconst 0, 1) := by decide +kernel
theorem dX6_has_19 : decode cX6_has 19 = .ok (.ireturn, 1) := by decide +kernel
theorem dX6_anew_0 : decode cX6_anew 0 = .ok (.aload_n 0, 1) := by decide +kernel
theorem dX6_anew_1 : decode cX6_anew 1 = .ok (.aload_n 0, 1) := by decide +kernel
theorem dX6_anew_2 : decode cX6_anew 2 = .ok (.getfield 81, 3) := by decide +kernel
theorem dX6_anew_5 : decode cX6_anew 5 = .ok (.ifCond .ne 7, 3) := by decide +kernel
theorem dX6_anew_8 : decode cX6_anew 8 = .ok (.iconst 1, 1) := by decide +kernel
theorem dX6_anew_9 : decode cX6_anew 9 = .ok (.goto 4, 3) := by decide +kernel
theorem dX6_anew_12 : decode cX6_anew 12 = .ok (.iconst 0, 1) := by decide +kernel
theorem dX6_anew_13 : decode cX6_anew 13 = .ok (.putfield 85, 3) := by decide +kernel
theorem dX6_anew_16 : decode cX6_anew 16 = .ok (.aload_n 0, 1) := by decide +kernel
theorem dX6_anew_17 : decode cX6_anew 17 = .ok (.iconst 0, 1) := by decide +kernel
theorem dX6_anew_18 : decode cX6_anew 18 = .ok (.putfield 88, 3) := by decide +kernel
theorem dX6_anew_21 : decode cX6_anew 21 = .ok (.aload_n 0, 1) := by decide +kernel
theorem dX6_anew_22 : decode cX6_anew 22 = .ok (.lconst 0, 1) := by decide +kernel
theorem dX6_anew_23 : decode cX6_anew 23 = .ok (.putfield 91, 3) := by decide +kernel
theorem dX6_anew_26 : decode cX6_anew 26 = .ok (.iconst 0, 1) := by decide +kernel
theorem dX6_anew_27 : decode cX6_anew 27 = .ok (.istore_n 1, 1) := by decide +kernel
theorem dX6_anew_28 : decode cX6_anew 28 = .ok (.iload_n 1, 1) := by decide +kernel
theorem dX6_anew_29 : decode cX6_anew 29 = .ok (.bipush 8, 2) := by decide +kernel
theorem dX6_anew_31 : decode cX6_anew 31 = .ok (.if_icmp .ge 30, 3) := by decide +kernel
theorem dX6_anew_34 : decode cX6_anew 34 = .ok (.aload_n 0, 1) := by decide +kernel
theorem dX6_anew_35 : decode cX6_anew 35 = .ok (.getfield 22, 3) := by decide +kernel
theorem dX6_anew_38 : decode cX6_anew 38 = .ok (.iload_n 1, 1) := by decide +kernel
theorem dX6_anew_39 : decode cX6_anew 39 = .ok (.iconst 0, 1) := by decide +kernel
theorem dX6_anew_40 : decode cX6_anew 40 = .ok (.iastore, 1) := by decide +kernel
theorem dX6_anew_41 : decode cX6_anew 41 = .ok (.aload_n 0, 1) := by decide +kernel
theorem dX6_anew_42 : decode cX6_anew 42 = .ok (.getfield 31, 3) := by decide +kernel
theorem dX6_anew_45 : decode cX6_anew 45 = .ok (.iload_n 1, 1) := by decide +kernel
theorem dX6_anew_46 : decode cX6_anew 46 = .ok (.iconst 0, 1) := by decide +kernel
theorem dX6_anew_47 : decode cX6_anew 47 = .ok (.iastore, 1) := by decide +kernel
theorem dX6_anew_48 : decode cX6_anew 48 = .ok (.aload_n 0, 1) := by decide +kernel
theorem dX6_anew_49 : decode cX6_anew 49 = .ok (.getfield 28, 3) := by decide +kernel
theorem dX6_anew_52 : decode cX6_anew 52 = .ok (.iload_n 1, 1) := by decide +kernel
theorem dX6_anew_53 : decode cX6_anew 53 = .ok (.iload_n 1, 1) := by decide +kernel
theorem dX6_anew_54 : decode cX6_anew 54 = .ok (.iastore, 1) := by decide +kernel
theorem dX6_anew_55 : decode cX6_anew 55 = .ok (.iinc 1 1, 3) := by decide +kernel
theorem dX6_anew_58 : decode cX6_anew 58 = .ok (.goto (-30), 3) := by decide +kernel
theorem dX6_anew_61 : decode cX6_anew 61 = .ok (.iconst 0, 1) := by decide +kernel
theorem dX6_anew_62 : decode cX6_anew 62 = .ok (.istore_n 1, 1) := by decide +kernel
theorem dX6_anew_63 : decode cX6_anew 63 = .ok (.iload_n 1, 1) := by decide +kernel
theorem dX6_anew_64 : decode cX6_anew 64 = .ok (.aload_n 0, 1) := by decide +kernel
theorem dX6_anew_65 : decode cX6_anew 65 = .ok (.getfield 81, 3) := by decide +kernel
theorem dX6_anew_68 : decode cX6_anew 68 = .ok (.if_icmp .ge 76, 3) := by decide +kernel
theorem dX6_anew_71 : decode cX6_anew 71 = .ok (.iload_n 1, 1) := by decide +kernel
theorem dX6_anew_72 : decode cX6_anew 72 = .ok (.istore_n 2, 1) := by decide +kernel
theorem dX6_anew_73 : decode cX6_anew 73 = .ok (.iload_n 2, 1) := by decide +kernel
theorem dX6_anew_74 : decode cX6_anew 74 = .ok (.ifCond .le 64, 3) := by decide +kernel
theorem dX6_anew_77 : decode cX6_anew 77 = .ok (.aload_n 0, 1) := by decide +kernel
theorem dX6_anew_78 : decode cX6_anew 78 = .ok (.aload_n 0, 1) := by decide +kernel
theorem dX6_anew_79 : decode cX6_anew 79 = .ok (.getfield 28, 3) := by decide +kernel
theorem dX6_anew_82 : decode cX6_anew 82 = .ok (.iload_n 2, 1) := by decide +kernel
theorem dX6_anew_83 : decode cX6_anew 83 = .ok (.iaload, 1) := by decide +kernel
theorem dX6_anew_84 : decode cX6_anew 84 = .ok (.invokevirtual 95, 3) := by decide +kernel
theorem dX6_anew_87 : decode cX6_anew 87 = .ok (.aload_n 0, 1) := by decide +kernel
theorem dX6_anew_88 : decode cX6_anew 88 = .ok (.aload_n 0, 1) := by decide +kernel
theorem dX6_anew_89 : decode cX6_anew 89 = .ok (.getfield 28, 3) := by decide +kernel
theorem dX6_anew_92 : decode cX6_anew 92 = .ok (.iload_n 2, 1) := by decide +kernel
theorem dX6_anew_93 : decode cX6_anew 93 = .ok (.iconst 1, 1) := by decide +kernel
theorem dX6_anew_94 : decode cX6_anew 94 = .ok (.isub, 1) := by decide +kernel
theorem dX6_anew_95 : decode cX6_anew 95 = .ok (.iaload, 1) := by decide +kernel
theorem dX6_anew_96 : decode cX6_anew 96 = .ok (.invokevirtual 95, 3) := by decide +kernel
theorem dX6_anew_99 : decode cX6_anew 99 = .ok (.if_icmp .le 39, 3) := by decide +kernel
theorem dX6_anew_102 : decode cX6_anew 102 = .ok (.aload_n 0, 1) := by decide +kernel
theorem dX6_anew_103 : decode cX6_anew 103 = .ok (.getfield 28, 3) := by decide +kernel
theorem dX6_anew_106 : decode cX6_anew 106 = .ok (.iload_n 2, 1) := by decide +kernel
theorem dX6_anew_107 : decode cX6_anew 107 = .ok (.iaload, 1) := by decide +kernel
theorem dX6_anew_108 : decode cX6_anew 108 = .ok (.istore_n 3, 1) := by decide +kernel
theorem dX6_anew_109 : decode cX6_anew 109 = .ok (.aload_n 0, 1) := by decide +kernel
theorem dX6_anew_110 : decode cX6_anew 110 = .ok (.getfield 28, 3) := by decide +kernel
theorem dX6_anew_113 : decode cX6_anew 113 = .ok (.iload_n 2, 1) := by decide +kernel
theorem dX6_anew_114 : decode cX6_anew 114 = .ok (.aload_n 0, 1) := by decide +kernel
theorem dX6_anew_115 : decode cX6_anew 115 = .ok (.getfield 28, 3) := by decide +kernel
theorem dX6_anew_118 : decode cX6_anew 118 = .ok (.iload_n 2, 1) := by decide +kernel
theorem dX6_anew_119 : decode cX6_anew 119 = .ok (.iconst 1, 1) := by decide +kernel
theorem dX6_anew_120 : decode cX6_anew 120 = .ok (.isub, 1) := by decide +kernel
theorem dX6_anew_121 : decode cX6_anew 121 = .ok (.iaload, 1) := by decide +kernel
theorem dX6_anew_122 : decode cX6_anew 122 = .ok (.iastore, 1) := by decide +kernel
theorem dX6_anew_123 : decode cX6_anew 123 = .ok (.aload_n 0, 1) := by decide +kernel
theorem dX6_anew_124 : decode cX6_anew 124 = .ok (.getfield 28, 3) := by decide +kernel
theorem dX6_anew_127 : decode cX6_anew 127 = .ok (.iload_n 2, 1) := by decide +kernel
theorem dX6_anew_128 : decode cX6_anew 128 = .ok (.iconst 1, 1) := by decide +kernel
theorem dX6_anew_129 : decode cX6_anew 129 = .ok (.isub, 1) := by decide +kernel
theorem dX6_anew_130 : decode cX6_anew 130 = .ok (.iload_n 3, 1) := by decide +kernel
theorem dX6_anew_131 : decode cX6_anew 131 = .ok (.iastore, 1) := by decide +kernel
theorem dX6_anew_132 : decode cX6_anew 132 = .ok (.iinc 2 (-1), 3) := by decide +kernel
theorem dX6_anew_135 : decode cX6_anew 135 = .ok (.goto (-62), 3) := by decide +kernel
theorem dX6_anew_138 : decode cX6_anew 138 = .ok (.iinc 1 1, 3) := by decide +kernel
theorem dX6_anew_141 : decode cX6_anew 141 = .ok (.goto (-78), 3) := by decide +kernel
theorem dX6_anew_144 : decode cX6_anew 144 = .ok (.iconst 0, 1) := by decide +kernel
theorem dX6_anew_145 : decode cX6_anew 145 = .ok (.istore_n 1, 1) := by decide +kernel
theorem dX6_anew_146 : decode cX6_anew 146 = .ok (.iload_n 1, 1) := by decide +kernel
theorem dX6_anew_147 : decode cX6_anew 147 = .ok (.aload_n 0, 1) := by decide +kernel
theorem dX6_anew_148 : decode cX6_anew 148 = .ok (.getfield 81, 3) := by decide +kernel
theorem dX6_anew_151 : decode cX6_anew 151 = .ok (.if_icmp .ge 125, 3) := by decide +kernel
theorem dX6_anew_154 : decode cX6_anew 154 = .ok (.iconst 0, 1) := by decide +kernel
theorem dX6_anew_155 : decode cX6_anew 155 = .ok (.istore_n 2, 1) := by decide +kernel
theorem dX6_anew_156 : decode cX6_anew 156 = .ok (.iload_n 2, 1) := by decide +kernel
theorem dX6_anew_157 : decode cX6_anew 157 = .ok (.iconst 3, 1) := by decide +kernel
theorem dX6_anew_158 : decode cX6_anew 158 = .ok (.if_icmp .ge 51, 3) := by decide +kernel
theorem dX6_anew_161 : decode cX6_anew 161 = .ok (.aload_n 0, 1) := by decide +kernel
theorem dX6_anew_162 : decode cX6_anew 162 = .ok (.iload_n 1, 1) := by decide +kernel
theorem dX6_anew_163 : decode cX6_anew 163 = .ok (.iload_n 2, 1) := by decide +kernel
theorem dX6_anew_164 : decode cX6_anew 164 = .ok (.invokevirtual 99, 3) := by decide +kernel
theorem dX6_anew_167 : decode cX6_anew 167 = .ok (.iconst 0, 1) := by decide +kernel
theorem dX6_anew_168 : decode cX6_anew 168 = .ok (.istore_n 3, 1) := by decide +kernel
theorem dX6_anew_169 : decode cX6_anew 169 = .ok (.iload_n 3, 1) := by decide +kernel
theorem dX6_anew_170 : decode cX6_anew 170 = .ok (.bipush 6, 2) := by decide +kernel
theorem dX6_anew_172 : decode cX6_anew 172 = .ok (.if_icmp .ge 31, 3) := by decide +kernel
theorem dX6_anew_175 : decode cX6_anew 175 = .ok (.aload_n 0, 1) := by decide +kernel
theorem dX6_anew_176 : decode cX6_anew 176 = .ok (.getfield 44, 3) := by decide +kernel
theorem dX6_anew_179 : decode cX6_anew 179 = .ok (.bipush 18, 2) := by decide +kernel
theorem dX6_anew_181 : decode cX6_anew 181 = .ok (.iload_n 1, 1) := by decide +kernel
theorem dX6_anew_182 : decode cX6_anew 182 = .ok (.imul, 1) := by decide +kernel
theorem dX6_anew_183 : decode cX6_anew 183 = .ok (.iconst 3, 1) := by decide +kernel
theorem dX6_anew_184 : decode cX6_anew 184 = .ok (.iload_n 3, 1) := by decide +kernel
theorem dX6_anew_185 : decode cX6_anew 185 = .ok (.imul, 1) := by decide +kernel
theorem dX6_anew_186 : decode cX6_anew 186 = .ok (.iadd, 1) := by decide +kernel
theorem dX6_anew_187 : decode cX6_anew 187 = .ok (.iload_n 2, 1) := by decide +kernel
theorem dX6_anew_188 : decode cX6_anew 188 = .ok (.iadd, 1) := by decide +kernel
theorem dX6_anew_189 : decode cX6_anew 189 = .ok (.aload_n 0, 1) := by decide +kernel
theorem dX6_anew_190 : decode cX6_anew 190 = .ok (.iload_n 1, 1) := by decide +kernel
theorem dX6_anew_191 : decode cX6_anew 191 = .ok (.iload_n 3, 1) := by decide +kernel
theorem dX6_anew_192 : decode cX6_anew 192 = .ok (.iload_n 2, 1) := by decide +kernel
theorem dX6_anew_193 : decode cX6_anew 193 = .ok (.invokevirtual 103, 3) := by decide +kernel
theorem dX6_anew_196 : decode cX6_anew 196 = .ok (.iastore, 1) := by decide +kernel
theorem dX6_anew_197 : decode cX6_anew 197 = .ok (.iinc 3 1, 3) := by decide +kernel
theorem dX6_anew_200 : decode cX6_anew 200 = .ok (.goto (-31), 3) := by decide +kernel
theorem dX6_anew_203 : decode cX6_anew 203 = .ok (.iinc 2 1, 3) := by decide +kernel
theorem dX6_anew_206 : decode cX6_anew 206 = .ok (.goto (-50), 3) := by decide +kernel
theorem dX6_anew_209 : decode cX6_anew 209 = .ok (.iconst 0, 1) := by decide +kernel
theorem dX6_anew_210 : decode cX6_anew 210 = .ok (.istore_n 2, 1) := by decide +kernel
theorem dX6_anew_211 : decode cX6_anew 211 = .ok (.iload_n 2, 1) := by decide +kernel
theorem dX6_anew_212 : decode cX6_anew 212 = .ok (.bipush 6, 2) := by decide +kernel
theorem dX6_anew_214 : decode cX6_anew 214 = .ok (.if_icmp .ge 56, 3) := by decide +kernel
theorem dX6_anew_217 : decode cX6_anew 217 = .ok (.aload_n 0, 1) := by decide +kernel
theorem dX6_anew_218 : decode cX6_anew 218 = .ok (.getfield 47, 3) := by decide +kernel
theorem dX6_anew_221 : decode cX6_anew 221 = .ok (.bipush 6, 2) := by decide +kernel
theorem dX6_anew_223 : decode cX6_anew 223 = .ok (.iload_n 1, 1) := by decide +kernel
theorem dX6_anew_224 : decode cX6_anew 224 = .ok (.imul, 1) := by decide +kernel
theorem dX6_anew_225 : decode cX6_anew 225 = .ok (.iload_n 2, 1) := by decide +kernel
theorem dX6_anew_226 : decode cX6_anew 226 = .ok (.iadd, 1) := by decide +kernel
theorem dX6_anew_227 : decode cX6_anew 227 = .ok (.aload_n 0, 1) := by decide +kernel
theorem dX6_anew_228 : decode cX6_anew 228 = .ok (.iload_n 1, 1) := by decide +kernel
theorem dX6_anew_229 : decode cX6_anew 229 = .ok (.iload_n 2, 1) := by decide +kernel
theorem dX6_anew_230 : decode cX6_anew 230 = .ok (.invokevirtual 107, 3) := by decide +kernel
theorem dX6_anew_233 : decode cX6_anew 233 = .ok (.ifCond .eq 29, 3) := by decide +kernel
theorem dX6_anew_236 : decode cX6_anew 236 = .ok (.aload_n 0, 1) := by decide +kernel
theorem dX6_anew_237 : decode cX6_anew 237 = .ok (.iload_n 1, 1) := by decide +kernel
theorem dX6_anew_238 : decode cX6_anew 238 = .ok (.iload_n 2, 1) := by decide +kernel
theorem dX6_anew_239 : decode cX6_anew 239 = .ok (.iconst 0, 1) := by decide +kernel
theorem dX6_anew_240 : decode cX6_anew 240 = .ok (.invokevirtual 111, 3) := by decide +kernel
theorem dX6_anew_243 : decode cX6_anew 243 = .ok (.aload_n 0, 1) := by decide +kernel
theorem dX6_anew_244 : decode cX6_anew 244 = .ok (.iload_n 1, 1) := by decide +kernel
theorem dX6_anew_245 : decode cX6_anew 245 = .ok (.iload_n 2, 1) := by decide +kernel
theorem dX6_anew_246 : decode cX6_anew 246 = .ok (.iconst 1, 1) := by decide +kernel
theorem dX6_anew_247 : decode cX6_anew 247 = .ok (.invokevirtual 111, 3) := by decide +kernel
theorem dX6_anew_250 : decode cX6_anew 250 = .ok (.imul, 1) := by decide +kernel
theorem dX6_anew_251 : decode cX6_anew 251 = .ok (.aload_n 0, 1) := by decide +kernel
theorem dX6_anew_252 : decode cX6_anew 252 = .ok (.iload_n 1, 1) := by decide +kernel
theorem dX6_anew_253 : decode cX6_anew 253 = .ok (.iload_n 2, 1) := by decide +kernel
theorem dX6_anew_254 : decode cX6_anew 254 = .ok (.iconst 2, 1) := by decide +kernel
theorem dX6_anew_255 : decode cX6_anew 255 = .ok (.invokevirtual 111, 3) := by decide +kernel
theorem dX6_anew_258 : decode cX6_anew 258 = .ok (.imul, 1) := by decide +kernel
theorem dX6_anew_259 : decode cX6_anew 259 = .ok (.goto 4, 3) := by decide +kernel
theorem dX6_anew_262 : decode cX6_anew 262 = .ok (.iconst 0, 1) := by decide +kernel
theorem dX6_anew_263 : decode cX6_anew 263 = .ok (.iastore, 1) := by decide +kernel
theorem dX6_anew_264 : decode cX6_anew 264 = .ok (.iinc 2 1, 3) := by decide +kernel
theorem dX6_anew_267 : decode cX6_anew 267 = .ok (.goto (-56), 3) := by decide +kernel
theorem dX6_anew_270 : decode cX6_anew 270 = .ok (.iinc 1 1, 3) := by decide +kernel
theorem dX6_anew_273 : decode cX6_anew 273 = .ok (.goto (-127), 3) := by decide +kernel
theorem dX6_anew_276 : decode cX6_anew 276 = .ok (.aload_n 0, 1) := by decide +kernel
theorem dX6_anew_277 : decode cX6_anew 277 = .ok (.iconst 0, 1) := by decide +kernel
theorem dX6_anew_278 : decode cX6_anew 278 = .ok (.putfield 114, 3) := by decide +kernel
theorem dX6_anew_281 : decode cX6_anew 281 = .ok (.return_, 1) := by decide +kernel
theorem dX6_volume_0 : decode cX6_volume 0 = .ok (.aload_n 0, 1) := by decide +kernel
theorem dX6_volume_1 : decode cX6_volume 1 = .ok (.getfield 13, 3) := by decide +kernel
theorem dX6_volume_4 : decode cX6_volume 4 = .ok (.iconst 3, 1) := by decide +kernel
theorem dX6_volume_5 : decode cX6_volume 5 = .ok (.iload_n 1, 1) := by decide +kernel
theorem dX6_volume_6 : decode cX6_volume 6 = .ok (.imul, 1) := by decide +kernel
theorem dX6_volume_7 : decode cX6_volume 7 = .ok (.iaload, 1) := by decide +kernel
theorem dX6_volume_8 : decode cX6_volume 8 = .ok (.aload_n 0, 1) := by decide +kernel
theorem dX6_volume_9 : decode cX6_volume 9 = .ok (.getfield 13, 3) := by decide +kernel
theorem dX6_volume_12 : decode cX6_volume 12 = .ok (.iconst 3, 1) := by decide +kernel
theorem dX6_volume_13 : decode cX6_volume 13 = .ok (.iload_n 1, 1) := by decide +kernel
theorem dX6_volume_14 : decode cX6_volume 14 = .ok (.imul, 1) := by decide +kernel
theorem dX6_volume_15 : decode cX6_volume 15 = .ok (.iconst 1, 1) := by decide +kernel
theorem dX6_volume_16 : decode cX6_volume 16 = .ok (.iadd, 1) := by decide +kernel
theorem dX6_volume_17 : decode cX6_volume 17 = .ok (.iaload, 1) := by decide +kernel
theorem dX6_volume_18 : decode cX6_volume 18 = .ok (.imul, 1) := by decide +kernel
theorem dX6_volume_19 : decode cX6_volume 19 = .ok (.aload_n 0, 1) := by decide +kernel
theorem dX6_volume_20 : decode cX6_volume 20 = .ok (.getfield 13, 3) := by decide +kernel
theorem dX6_volume_23 : decode cX6_volume 23 = .ok (.iconst 3, 1) := by decide +kernel
theorem dX6_volume_24 : decode cX6_volume 24 = .ok (.iload_n 1, 1) := by decide +kernel
theorem dX6_volume_25 : decode cX6_volume 25 = .ok (.imul, 1) := by decide +kernel
theorem dX6_volume_26 : decode cX6_volume 26 = .ok (.iconst 2, 1) := by decide +kernel
theorem dX6_volume_27 : decode cX6_volume 27 = .ok (.iadd, 1) := by decide +kernel
theorem dX6_volume_28 : decode cX6_volume 28 = .ok (.iaload, 1) := by decide +kernel
theorem dX6_volume_29 : decode cX6_volume 29 = .ok (.imul, 1) := by decide +kernel
theorem dX6_volume_30 : decode cX6_volume 30 = .ok (.ireturn, 1) := by decide +kernel
theorem dX6_isSum_0 : decode cX6_isSum 0 = .ok (.aload_n 0, 1) := by decide +kernel
theorem dX6_isSum_1 : decode cX6_isSum 1 = .ok (.getfield 40, 3) := by decide +kernel
theorem dX6_isSum_4 : decode cX6_isSum 4 = .ok (.sipush 142, 3) := by decide +kernel
theorem dX6_isSum_7 : decode cX6_isSum 7 = .ok (.iconst 3, 1) := by decide +kernel
theorem dX6_isSum_8 : decode cX6_isSum 8 = .ok (.iload_n 1, 1) := by decide +kernel
theorem dX6_isSum_9 : decode cX6_isSum 9 = .ok (.imul, 1) := by decide +kernel
theorem dX6_isSum_10 : decode cX6_isSum 10 = .ok (.iload_n 2, 1) := by decide +kernel
theorem dX6_isSum_11 : decode cX6_isSum 11 = .ok (.iadd, 1) := by decide +kernel
theorem dX6_isSum_12 : decode cX6_isSum 12 = .ok (.imul, 1) := by decide +kernel
theorem dX6_isSum_13 : decode cX6_isSum 13 = .ok (.iload_n 3, 1) := by decide +kernel
theorem dX6_isSum_14 : decode cX6_isSum 14 = .ok (.iadd, 1) := by decide +kernel
theorem dX6_isSum_15 : decode cX6_isSum 15 = .ok (.baload, 1) := by decide +kernel
theorem dX6_isSum_16 : decode cX6_isSum 16 = .ok (.ireturn, 1) := by decide +kernel
theorem dX6_sum_0 : decode cX6_sum 0 = .ok (.sipush 142, 3) := by decide +kernel
theorem dX6_sum_3 : decode cX6_sum 3 = .ok (.iconst 3, 1) := by decide +kernel
theorem dX6_sum_4 : decode cX6_sum 4 = .ok (.iload_n 1, 1) := by decide +kernel
theorem dX6_sum_5 : decode cX6_sum 5 = .ok (.imul, 1) := by decide +kernel
theorem dX6_sum_6 : decode cX6_sum 6 = .ok (.iload_n 2, 1) := by decide +kernel
theorem dX6_sum_7 : decode cX6_sum 7 = .ok (.iadd, 1) := by decide +kernel
theorem dX6_sum_8 : decode cX6_sum 8 = .ok (.imul, 1) := by decide +kernel
theorem dX6_sum_9 : decode cX6_sum 9 = .ok (.istore_n 3, 1) := by decide +kernel
theorem dX6_sum_10 : decode cX6_sum 10 = .ok (.iconst 0, 1) := by decide +kernel
theorem dX6_sum_11 : decode cX6_sum 11 = .ok (.istore 4, 2) := by decide +kernel
theorem dX6_sum_13 : decode cX6_sum 13 = .ok (.iload 4, 2) := by decide +kernel
theorem dX6_sum_15 : decode cX6_sum 15 = .ok (.sipush 142, 3) := by decide +kernel
theorem dX6_sum_18 : decode cX6_sum 18 = .ok (.if_icmp .ge 28, 3) := by decide +kernel
theorem dX6_sum_21 : decode cX6_sum 21 = .ok (.aload_n 0, 1) := by decide +kernel
theorem dX6_sum_22 : decode cX6_sum 22 = .ok (.getfield 40, 3) := by decide +kernel
theorem dX6_sum_25 : decode cX6_sum 25 = .ok (.iload_n 3, 1) := by decide +kernel
theorem dX6_sum_26 : decode cX6_sum 26 = .ok (.iload 4, 2) := by decide +kernel
theorem dX6_sum_28 : decode cX6_sum 28 = .ok (.iadd, 1) := by decide +kernel
theorem dX6_sum_29 : decode cX6_sum 29 = .ok (.iload 4, 2) := by decide +kernel
theorem dX6_sum_31 : decode cX6_sum 31 = .ok (.ifCond .ne 7, 3) := by decide +kernel
theorem dX6_sum_34 : decode cX6_sum 34 = .ok (.iconst 1, 1) := by decide +kernel
theorem dX6_sum_35 : decode cX6_sum 35 = .ok (.goto 4, 3) := by decide +kernel
theorem dX6_sum_38 : decode cX6_sum 38 = .ok (.iconst 0, 1) := by decide +kernel
theorem dX6_sum_39 : decode cX6_sum 39 = .ok (.bastore, 1) := by decide +kernel
theorem dX6_sum_40 : decode cX6_sum 40 = .ok (.iinc 4 1, 3) := by decide +kernel
theorem dX6_sum_43 : decode cX6_sum 43 = .ok (.goto (-30), 3) := by decide +kernel
theorem dX6_sum_46 : decode cX6_sum 46 = .ok (.iconst 0, 1) := by decide +kernel
theorem dX6_sum_47 : decode cX6_sum 47 = .ok (.istore 4, 2) := by decide +kernel
theorem dX6_sum_49 : decode cX6_sum 49 = .ok (.iload 4, 2) := by decide +kernel
theorem dX6_sum_51 : decode cX6_sum 51 = .ok (.aload_n 0, 1) := by decide +kernel
theorem dX6_sum_52 : decode cX6_sum 52 = .ok (.getfield 81, 3) := by decide +kernel
theorem dX6_sum_55 : decode cX6_sum 55 = .ok (.if_icmp .ge 131, 3) := by decide +kernel
theorem dX6_sum_58 : decode cX6_sum 58 = .ok (.sipush 141, 3) := by decide +kernel
theorem dX6_sum_61 : decode cX6_sum 61 = .ok (.istore 5, 2) := by decide +kernel
theorem dX6_sum_63 : decode cX6_sum 63 = .ok (.iload 5, 2) := by decide +kernel
theorem dX6_sum_65 : decode cX6_sum 65 = .ok (.ifCond .lt 115, 3) := by decide +kernel
theorem dX6_sum_68 : decode cX6_sum 68 = .ok (.iload 4, 2) := by decide +kernel
theorem dX6_sum_70 : decode cX6_sum 70 = .ok (.iload_n 1, 1) := by decide +kernel
theorem dX6_sum_71 : decode cX6_sum 71 = .ok (.if_icmp .eq 109, 3) := by decide +kernel
theorem dX6_sum_74 : decode cX6_sum 74 = .ok (.aload_n 0, 1) := by decide +kernel
theorem dX6_sum_75 : decode cX6_sum 75 = .ok (.getfield 40, 3) := by decide +kernel
theorem dX6_sum_78 : decode cX6_sum 78 = .ok (.iload_n 3, 1) := by decide +kernel
theorem dX6_sum_79 : decode cX6_sum 79 = .ok (.iload 5, 2) := by decide +kernel
theorem dX6_sum_81 : decode cX6_sum 81 = .ok (.iadd, 1) := by decide +kernel
theorem dX6_sum_82 : decode cX6_sum 82 = .ok (.baload, 1) := by decide +kernel
theorem dX6_sum_83 : decode cX6_sum 83 = .ok (.istore 6, 2) := by decide +kernel
theorem dX6_sum_85 : decode cX6_sum 85 = .ok (.iconst 0, 1) := by decide +kernel
theorem dX6_sum_86 : decode cX6_sum 86 = .ok (.istore 7, 2) := by decide +kernel
theorem dX6_sum_88 : decode cX6_sum 88 = .ok (.iload 7, 2) := by decide +kernel
theorem dX6_sum_90 : decode cX6_sum 90 = .ok (.bipush 6, 2) := by decide +kernel
theorem dX6_sum_92 : decode cX6_sum 92 = .ok (.if_icmp .ge 71, 3) := by decide +kernel
theorem dX6_sum_95 : decode cX6_sum 95 = .ok (.aload_n 0, 1) := by decide +kernel
theorem dX6_sum_96 : decode cX6_sum 96 = .ok (.iload 4, 2) := by decide +kernel
theorem dX6_sum_98 : decode cX6_sum 98 = .ok (.iload 7, 2) := by decide +kernel
theorem dX6_sum_100 : decode cX6_sum 100 = .ok (.invokevirtual 118, 3) := by decide +kernel
theorem dX6_sum_103 : decode cX6_sum 103 = .ok (.ifCond .eq 15, 3) := by decide +kernel
theorem dX6_sum_106 : decode cX6_sum 106 = .ok (.aload_n 0, 1) := by decide +kernel
theorem dX6_sum_107 : decode cX6_sum 107 = .ok (.iload 4, 2) := by decide +kernel
theorem dX6_sum_109 : decode cX6_sum 109 = .ok (.iload 7, 2) := by decide +kernel
theorem dX6_sum_111 : decode cX6_sum 111 = .ok (.iload_n 2, 1) := by decide +kernel
theorem dX6_sum_112 : decode cX6_sum 112 = .ok (.invokevirtual 121, 3) := by decide +kernel
theorem dX6_sum_115 : decode cX6_sum 115 = .ok (.goto 6, 3) := by decide +kernel
theorem dX6_sum_118 : decode cX6_sum 118 = .ok (.sipush 200, 3) := by decide +kernel
theorem dX6_sum_121 : decode cX6_sum 121 = .ok (.istore 8, 2) := by decide +kernel
theorem dX6_sum_123 : decode cX6_sum 123 = .ok (.iload 6, 2) := by decide +kernel
theorem dX6_sum_125 : decode cX6_sum 125 = .ok (.ifCond .ne 25, 3) := by decide +kernel
theorem dX6_sum_128 : decode cX6_sum 128 = .ok (.iload 8, 2) := by decide +kernel
theorem dX6_sum_130 : decode cX6_sum 130 = .ok (.iload 5, 2) := by decide +kernel
theorem dX6_sum_132 : decode cX6_sum 132 = .ok (.if_icmp .gt 22, 3) := by decide +kernel
theorem dX6_sum_135 : decode cX6_sum 135 = .ok (.aload_n 0, 1) := by decide +kernel
theorem dX6_sum_136 : decode cX6_sum 136 = .ok (.getfield 40, 3) := by decide +kernel
theorem dX6_sum_139 : decode cX6_sum 139 = .ok (.iload_n 3, 1) := by decide +kernel
theorem dX6_sum_140 : decode cX6_sum 140 = .ok (.iload 5, 2) := by decide +kernel
theorem dX6_sum_142 : decode cX6_sum 142 = .ok (.iadd, 1) := by decide +kernel
theorem dX6_sum_143 : decode cX6_sum 143 = .ok (.iload 8, 2) := by decide +kernel
theorem dX6_sum_145 : decode cX6_sum 145 = .ok (.isub, 1) := by decide +kernel
theorem dX6_sum_146 : decode cX6_sum 146 = .ok (.baload, 1) := by decide +kernel
theorem dX6_sum_147 : decode cX6_sum 147 = .ok (.ifCond .eq 7, 3) := by decide +kernel
theorem dX6_sum_150 : decode cX6_sum 150 = .ok (.iconst 1, 1) := by decide +kernel
theorem dX6_sum_151 : decode cX6_sum 151 = .ok (.goto 4, 3) := by decide +kernel
theorem dX6_sum_154 : decode cX6_sum 154 = .ok (.iconst 0, 1) := by decide +kernel
theorem dX6_sum_155 : decode cX6_sum 155 = .ok (.istore 6, 2) := by decide +kernel
theorem dX6_sum_157 : decode cX6_sum 157 = .ok (.iinc 7 1, 3) := by decide +kernel
theorem dX6_sum_160 : decode cX6_sum 160 = .ok (.goto (-72), 3) := by decide +kernel
theorem dX6_sum_163 : decode cX6_sum 163 = .ok (.aload_n 0, 1) := by decide +kernel
theorem dX6_sum_164 : decode cX6_sum 164 = .ok (.getfield 40, 3) := by decide +kernel
theorem dX6_sum_167 : decode cX6_sum 167 = .ok (.iload_n 3, 1) := by decide +kernel
theorem dX6_sum_168 : decode cX6_sum 168 = .ok (.iload 5, 2) := by decide +kernel
theorem dX6_sum_170 : decode cX6_sum 170 = .ok (.iadd, 1) := by decide +kernel
theorem dX6_sum_171 : decode cX6_sum 171 = .ok (.iload 6, 2) := by decide +kernel
theorem dX6_sum_173 : decode cX6_sum 173 = .ok (.bastore, 1) := by decide +kernel
theorem dX6_sum_174 : decode cX6_sum 174 = .ok (.iinc 5 (-1), 3) := by decide +kernel
theorem dX6_sum_177 : decode cX6_sum 177 = .ok (.goto (-114), 3) := by decide +kernel
theorem dX6_sum_180 : decode cX6_sum 180 = .ok (.iinc 4 1, 3) := by decide +kernel
theorem dX6_sum_183 : decode cX6_sum 183 = .ok (.goto (-134), 3) := by decide +kernel
theorem dX6_sum_186 : decode cX6_sum 186 = .ok (.return_, 1) := by decide +kernel
theorem dX6_isFirst_0 : decode cX6_isFirst 0 = .ok (.aload_n 0, 1) := by decide +kernel
theorem dX6_isFirst_1 : decode cX6_isFirst 1 = .ok (.iload_n 1, 1) := by decide +kernel
theorem dX6_isFirst_2 : decode cX6_isFirst 2 = .ok (.iload_n 2, 1) := by decide +kernel
theorem dX6_isFirst_3 : decode cX6_isFirst 3 = .ok (.invokevirtual 118, 3) := by decide +kernel
theorem dX6_isFirst_6 : decode cX6_isFirst 6 = .ok (.istore_n 3, 1) := by decide +kernel
theorem dX6_isFirst_7 : decode cX6_isFirst 7 = .ok (.iconst 0, 1) := by decide +kernel
theorem dX6_isFirst_8 : decode cX6_isFirst 8 = .ok (.istore 4, 2) := by decide +kernel
theorem dX6_isFirst_10 : decode cX6_isFirst 10 = .ok (.iload 4, 2) := by decide +kernel
theorem dX6_isFirst_12 : decode cX6_isFirst 12 = .ok (.iload_n 2, 1) := by decide +kernel
theorem dX6_isFirst_13 : decode cX6_isFirst 13 = .ok (.if_icmp .ge 83, 3) := by decide +kernel
theorem dX6_isFirst_16 : decode cX6_isFirst 16 = .ok (.iload_n 3, 1) := by decide +kernel
theorem dX6_isFirst_17 : decode cX6_isFirst 17 = .ok (.ifCond .eq 71, 3) := by decide +kernel
theorem dX6_isFirst_20 : decode cX6_isFirst 20 = .ok (.aload_n 0, 1) := by decide +kernel
theorem dX6_isFirst_21 : decode cX6_isFirst 21 = .ok (.iload_n 1, 1) := by decide +kernel
theorem dX6_isFirst_22 : decode cX6_isFirst 22 = .ok (.iload 4, 2) := by decide +kernel
theorem dX6_isFirst_24 : decode cX6_isFirst 24 = .ok (.invokevirtual 118, 3) := by decide +kernel
theorem dX6_isFirst_27 : decode cX6_isFirst 27 = .ok (.ifCond .eq 57, 3) := by decide +kernel
theorem dX6_isFirst_30 : decode cX6_isFirst 30 = .ok (.aload_n 0, 1) := by decide +kernel
theorem dX6_isFirst_31 : decode cX6_isFirst 31 = .ok (.iload_n 1, 1) := by decide +kernel
theorem dX6_isFirst_32 : decode cX6_isFirst 32 = .ok (.iload 4, 2) := by decide +kernel
theorem dX6_isFirst_34 : decode cX6_isFirst 34 = .ok (.iconst 0, 1) := by decide +kernel
theorem dX6_isFirst_35 : decode cX6_isFirst 35 = .ok (.invokevirtual 121, 3) := by decide +kernel
theorem dX6_isFirst_38 : decode cX6_isFirst 38 = .ok (.aload_n 0, 1) := by decide +kernel
theorem dX6_isFirst_39 : decode cX6_isFirst 39 = .ok (.iload_n 1, 1) := by decide +kernel
theorem dX6_isFirst_40 : decode cX6_isFirst 40 = .ok (.iload_n 2, 1) := by decide +kernel
theorem dX6_isFirst_41 : decode cX6_isFirst 41 = .ok (.iconst 0, 1) := by decide +kernel
theorem dX6_isFirst_42 : decode cX6_isFirst 42 = .ok (.invokevirtual 121, 3) := by decide +kernel
theorem dX6_isFirst_45 : decode cX6_isFirst 45 = .ok (.if_icmp .ne 39, 3) := by decide +kernel
theorem dX6_isFirst_48 : decode cX6_isFirst 48 = .ok (.aload_n 0, 1) := by decide +kernel
theorem dX6_isFirst_49 : decode cX6_isFirst 49 = .ok (.iload_n 1, 1) := by decide +kernel
theorem dX6_isFirst_50 : decode cX6_isFirst 50 = .ok (.iload 4, 2) := by decide +kernel
theorem dX6_isFirst_52 : decode cX6_isFirst 52 = .ok (.iconst 1, 1) := by decide +kernel
theorem dX6_isFirst_53 : decode cX6_isFirst 53 = .ok (.invokevirtual 121, 3) := by decide +kernel
theorem dX6_isFirst_56 : decode cX6_isFirst 56 = .ok (.aload_n 0, 1) := by decide +kernel
theorem dX6_isFirst_57 : decode cX6_isFirst 57 = .ok (.iload_n 1, 1) := by decide +kernel
theorem dX6_isFirst_58 : decode cX6_isFirst 58 = .ok (.iload_n 2, 1) := by decide +kernel
theorem dX6_isFirst_59 : decode cX6_isFirst 59 = .ok (.iconst 1, 1) := by decide +kernel
theorem dX6_isFirst_60 : decode cX6_isFirst 60 = .ok (.invokevirtual 121, 3) := by decide +kernel
theorem dX6_isFirst_63 : decode cX6_isFirst 63 = .ok (.if_icmp .ne 21, 3) := by decide +kernel
theorem dX6_isFirst_66 : decode cX6_isFirst 66 = .ok (.aload_n 0, 1) := by decide +kernel
theorem dX6_isFirst_67 : decode cX6_isFirst 67 = .ok (.iload_n 1, 1) := by decide +kernel
theorem dX6_isFirst_68 : decode cX6_isFirst 68 = .ok (.iload 4, 2) := by decide +kernel
theorem dX6_isFirst_70 : decode cX6_isFirst 70 = .ok (.iconst 2, 1) := by decide +kernel
theorem dX6_isFirst_71 : decode cX6_isFirst 71 = .ok (.invokevirtual 121, 3) := by decide +kernel
theorem dX6_isFirst_74 : decode cX6_isFirst 74 = .ok (.aload_n 0, 1) := by decide +kernel
theorem dX6_isFirst_75 : decode cX6_isFirst 75 = .ok (.iload_n 1, 1) := by decide +kernel
theorem dX6_isFirst_76 : decode cX6_isFirst 76 = .ok (.iload_n 2, 1) := by decide +kernel
theorem dX6_isFirst_77 : decode cX6_isFirst 77 = .ok (.iconst 2, 1) := by decide +kernel
theorem dX6_isFirst_78 : decode cX6_isFirst 78 = .ok (.invokevirtual 121, 3) := by decide +kernel
theorem dX6_isFirst_81 : decode cX6_isFirst 81 = .ok (.if_icmp .eq 7, 3) := by decide +kernel
theorem dX6_isFirst_84 : decode cX6_isFirst 84 = .ok (.iconst 1, 1) := by decide +kernel
theorem dX6_isFirst_85 : decode cX6_isFirst 85 = .ok (.goto 4, 3) := by decide +kernel
theorem dX6_isFirst_88 : decode cX6_isFirst 88 = .ok (.iconst 0, 1) := by decide +kernel
theorem dX6_isFirst_89 : decode cX6_isFirst 89 = .ok (.istore_n 3, 1) := by decide +kernel
theorem dX6_isFirst_90 : decode cX6_isFirst 90 = .ok (.iinc 4 1, 3) := by decide +kernel
theorem dX6_isFirst_93 : decode cX6_isFirst 93 = .ok (.goto (-83), 3) := by decide +kernel
theorem dX6_isFirst_96 : decode cX6_isFirst 96 = .ok (.iload_n 3, 1) := by decide +kernel
theorem dX6_isFirst_97 : decode cX6_isFirst 97 = .ok (.ireturn, 1) := by decide +kernel
theorem dX6_many_0 : decode cX6_many 0 = .ok (.aload_n 0, 1) := by decide +kernel
theorem dX6_many_1 : decode cX6_many 1 = .ok (.getfield 44, 3) := by decide +kernel
theorem dX6_many_4 : decode cX6_many 4 = .ok (.bipush 18, 2) := by decide +kernel
theorem dX6_many_6 : decode cX6_many 6 = .ok (.iload_n 1, 1) := by decide +kernel
theorem dX6_many_7 : decode cX6_many 7 = .ok (.imul, 1) := by decide +kernel
theorem dX6_many_8 : decode cX6_many 8 = .ok (.iconst 3, 1) := by decide +kernel
theorem dX6_many_9 : decode cX6_many 9 = .ok (.iload_n 2, 1) := by decide +kernel
theorem dX6_many_10 : decode cX6_many 10 = .ok (.imul, 1) := by decide +kernel
theorem dX6_many_11 : decode cX6_many 11 = .ok (.iadd, 1) := by decide +kernel
theorem dX6_many_12 : decode cX6_many 12 = .ok (.iload_n 3, 1) := by decide +kernel
theorem dX6_many_13 : decode cX6_many 13 = .ok (.iadd, 1) := by decide +kernel
theorem dX6_many_14 : decode cX6_many 14 = .ok (.iaload, 1) := by decide +kernel
theorem dX6_many_15 : decode cX6_many 15 = .ok (.ireturn, 1) := by decide +kernel
theorem dX6_waysOf_0 : decode cX6_waysOf 0 = .ok (.aload_n 0, 1) := by decide +kernel
theorem dX6_waysOf_1 : decode cX6_waysOf 1 = .ok (.getfield 47, 3) := by decide +kernel
theorem dX6_waysOf_4 : decode cX6_waysOf 4 = .ok (.bipush 6, 2) := by decide +kernel
theorem dX6_waysOf_6 : decode cX6_waysOf 6 = .ok (.iload_n 1, 1) := by decide +kernel
theorem dX6_waysOf_7 : decode cX6_waysOf 7 = .ok (.imul, 1) := by decide +kernel
theorem dX6_waysOf_8 : decode cX6_waysOf 8 = .ok (.iload_n 2, 1) := by decide +kernel
theorem dX6_waysOf_9 : decode cX6_waysOf 9 = .ok (.iadd, 1) := by decide +kernel
theorem dX6_waysOf_10 : decode cX6_waysOf 10 = .ok (.iaload, 1) := by decide +kernel
theorem dX6_waysOf_11 : decode cX6_waysOf 11 = .ok (.ireturn, 1) := by decide +kernel
theorem dX6_counted_0 : decode cX6_counted 0 = .ok (.iconst 0, 1) := by decide +kernel
theorem dX6_counted_1 : decode cX6_counted 1 = .ok (.istore 4, 2) := by decide +kernel
theorem dX6_counted_3 : decode cX6_counted 3 = .ok (.iconst 0, 1) := by decide +kernel
theorem dX6_counted_4 : decode cX6_counted 4 = .ok (.istore 5, 2) := by decide +kernel
theorem dX6_counted_6 : decode cX6_counted 6 = .ok (.iload 5, 2) := by decide +kernel
theorem dX6_counted_8 : decode cX6_counted 8 = .ok (.aload_n 0, 1) := by decide +kernel
theorem dX6_counted_9 : decode cX6_counted 9 = .ok (.getfield 7, 3) := by decide +kernel
theorem dX6_counted_12 : decode cX6_counted 12 = .ok (.iload_n 3, 1) := by decide +kernel
theorem dX6_counted_13 : decode cX6_counted 13 = .ok (.iaload, 1) := by decide +kernel
theorem dX6_counted_14 : decode cX6_counted 14 = .ok (.aload_n 0, 1) := by decide +kernel
theorem dX6_counted_15 : decode cX6_counted 15 = .ok (.iload_n 1, 1) := by decide +kernel
theorem dX6_counted_16 : decode cX6_counted 16 = .ok (.iload_n 2, 1) := by decide +kernel
theorem dX6_counted_17 : decode cX6_counted 17 = .ok (.iload_n 3, 1) := by decide +kernel
theorem dX6_counted_18 : decode cX6_counted 18 = .ok (.invokevirtual 121, 3) := by decide +kernel
theorem dX6_counted_21 : decode cX6_counted 21 = .ok (.isub, 1) := by decide +kernel
theorem dX6_counted_22 : decode cX6_counted 22 = .ok (.if_icmp .gt 30, 3) := by decide +kernel
theorem dX6_counted_25 : decode cX6_counted 25 = .ok (.iload 4, 2) := by decide +kernel
theorem dX6_counted_27 : decode cX6_counted 27 = .ok (.aload_n 0, 1) := by decide +kernel
theorem dX6_counted_28 : decode cX6_counted 28 = .ok (.iload_n 1, 1) := by decide +kernel
theorem dX6_counted_29 : decode cX6_counted 29 = .ok (.iload_n 3, 1) := by decide +kernel
theorem dX6_counted_30 : decode cX6_counted 30 = .ok (.iload 5, 2) := by decide +kernel
theorem dX6_counted_32 : decode cX6_counted 32 = .ok (.invokevirtual 124, 3) := by decide +kernel
theorem dX6_counted_35 : decode cX6_counted 35 = .ok (.ifCond .eq 7, 3) := by decide +kernel
theorem dX6_counted_38 : decode cX6_counted 38 = .ok (.iconst 1, 1) := by decide +kernel
theorem dX6_counted_39 : decode cX6_counted 39 = .ok (.goto 4, 3) := by decide +kernel
theorem dX6_counted_42 : decode cX6_counted 42 = .ok (.iconst 0, 1) := by decide +kernel
theorem dX6_counted_43 : decode cX6_counted 43 = .ok (.iadd, 1) := by decide +kernel
theorem dX6_counted_44 : decode cX6_counted 44 = .ok (.istore 4, 2) := by decide +kernel
theorem dX6_counted_46 : decode cX6_counted 46 = .ok (.iinc 5 1, 3) := by decide +kernel
theorem dX6_counted_49 : decode cX6_counted 49 = .ok (.goto (-43), 3) := by decide +kernel
theorem dX6_counted_52 : decode cX6_counted 52 = .ok (.iload 4, 2) := by decide +kernel
theorem dX6_counted_54 : decode cX6_counted 54 = .ok (.ireturn, 1) := by decide +kernel
theorem dX6_ways_0 : decode cX6_ways 0 = .ok (.iconst 0, 1) := by decide +kernel
theorem dX6_ways_1 : decode cX6_ways 1 = .ok (.istore_n 2, 1) := by decide +kernel
theorem dX6_ways_2 : decode cX6_ways 2 = .ok (.iconst 0, 1) := by decide +kernel
theorem dX6_ways_3 : decode cX6_ways 3 = .ok (.istore_n 3, 1) := by decide +kernel
theorem dX6_ways_4 : decode cX6_ways 4 = .ok (.iload_n 3, 1) := by decide +kernel
theorem dX6_ways_5 : decode cX6_ways 5 = .ok (.bipush 6, 2) := by decide +kernel
theorem dX6_ways_7 : decode cX6_ways 7 = .ok (.if_icmp .ge 18, 3) := by decide +kernel
theorem dX6_ways_10 : decode cX6_ways 10 = .ok (.iload_n 2, 1) := by decide +kernel
theorem dX6_ways_11 : decode cX6_ways 11 = .ok (.aload_n 0, 1) := by decide +kernel
theorem dX6_ways_12 : decode cX6_ways 12 = .ok (.iload_n 1, 1) := by decide +kernel
theorem dX6_ways_13 : decode cX6_ways 13 = .ok (.iload_n 3, 1) := by decide +kernel
theorem dX6_ways_14 : decode cX6_ways 14 = .ok (.invokevirtual 128, 3) := by decide +kernel
theorem dX6_ways_17 : decode cX6_ways 17 = .ok (.iadd, 1) := by decide +kernel
theorem dX6_ways_18 : decode cX6_ways 18 = .ok (.istore_n 2, 1) := by decide +kernel
theorem dX6_ways_19 : decode cX6_ways 19 = .ok (.iinc 3 1, 3) := by decide +kernel
theorem dX6_ways_22 : decode cX6_ways 22 = .ok (.goto (-18), 3) := by decide +kernel
theorem dX6_ways_25 : decode cX6_ways 25 = .ok (.iload_n 2, 1) := by decide +kernel
theorem dX6_ways_26 : decode cX6_ways 26 = .ok (.ireturn, 1) := by decide +kernel
theorem dX6_coordinate_0 : decode cX6_coordinate 0 = .ok (.iconst 0, 1) := by decide +kernel
theorem dX6_coordinate_1 : decode cX6_coordinate 1 = .ok (.istore 4, 2) := by decide +kernel
theorem dX6_coordinate_3 : decode cX6_coordinate 3 = .ok (.iload_n 3, 1) := by decide +kernel
theorem dX6_coordinate_4 : decode cX6_coordinate 4 = .ok (.istore 5, 2) := by decide +kernel
theorem dX6_coordinate_6 : decode cX6_coordinate 6 = .ok (.iload 5, 2) := by decide +kernel
theorem dX6_coordinate_8 : decode cX6_coordinate 8 = .ok (.ifCond .gt 14, 3) := by decide +kernel
theorem dX6_coordinate_11 : decode cX6_coordinate 11 = .ok (.aload_n 0, 1) := by decide +kernel
theorem dX6_coordinate_12 : decode cX6_coordinate 12 = .ok (.iload_n 1, 1) := by decide +kernel
theorem dX6_coordinate_13 : decode cX6_coordinate 13 = .ok (.iload_n 2, 1) := by decide +kernel
theorem dX6_coordinate_14 : decode cX6_coordinate 14 = .ok (.iload 4, 2) := by decide +kernel
theorem dX6_coordinate_16 : decode cX6_coordinate 16 = .ok (.invokevirtual 124, 3) := by decide +kernel
theorem dX6_coordinate_19 : decode cX6_coordinate 19 = .ok (.ifCond .ne 30, 3) := by decide +kernel
theorem dX6_coordinate_22 : decode cX6_coordinate 22 = .ok (.iload 5, 2) := by decide +kernel
theorem dX6_coordinate_24 : decode cX6_coordinate 24 = .ok (.aload_n 0, 1) := by decide +kernel
theorem dX6_coordinate_25 : decode cX6_coordinate 25 = .ok (.iload_n 1, 1) := by decide +kernel
theorem dX6_coordinate_26 : decode cX6_coordinate 26 = .ok (.iload_n 2, 1) := by decide +kernel
theorem dX6_coordinate_27 : decode cX6_coordinate 27 = .ok (.iload 4, 2) := by decide +kernel
theorem dX6_coordinate_29 : decode cX6_coordinate 29 = .ok (.invokevirtual 124, 3) := by decide +kernel
theorem dX6_coordinate_32 : decode cX6_coordinate 32 = .ok (.ifCond .eq 7, 3) := by decide +kernel
theorem dX6_coordinate_35 : decode cX6_coordinate 35 = .ok (.iconst 1, 1) := by decide +kernel
theorem dX6_coordinate_36 : decode cX6_coordinate 36 = .ok (.goto 4, 3) := by decide +kernel
theorem dX6_coordinate_39 : decode cX6_coordinate 39 = .ok (.iconst 0, 1) := by decide +kernel
theorem dX6_coordinate_40 : decode cX6_coordinate 40 = .ok (.isub, 1) := by decide +kernel
theorem dX6_coordinate_41 : decode cX6_coordinate 41 = .ok (.istore 5, 2) := by decide +kernel
theorem dX6_coordinate_43 : decode cX6_coordinate 43 = .ok (.iinc 4 1, 3) := by decide +kernel
theorem dX6_coordinate_46 : decode cX6_coordinate 46 = .ok (.goto (-40), 3) := by decide +kernel
theorem dX6_coordinate_49 : decode cX6_coordinate 49 = .ok (.iload 4, 2) := by decide +kernel
theorem dX6_coordinate_51 : decode cX6_coordinate 51 = .ok (.ireturn, 1) := by decide +kernel
theorem dX6_goes_0 : decode cX6_goes 0 = .ok (.iconst 0, 1) := by decide +kernel
theorem dX6_goes_1 : decode cX6_goes 1 = .ok (.istore_n 3, 1) := by decide +kernel
theorem dX6_goes_2 : decode cX6_goes 2 = .ok (.iload_n 2, 1) := by decide +kernel
theorem dX6_goes_3 : decode cX6_goes 3 = .ok (.istore 4, 2) := by decide +kernel
theorem dX6_goes_5 : decode cX6_goes 5 = .ok (.iload 4, 2) := by decide +kernel
theorem dX6_goes_7 : decode cX6_goes 7 = .ok (.aload_n 0, 1) := by decide +kernel
theorem dX6_goes_8 : decode cX6_goes 8 = .ok (.iload_n 1, 1) := by decide +kernel
theorem dX6_goes_9 : decode cX6_goes 9 = .ok (.iload_n 3, 1) := by decide +kernel
theorem dX6_goes_10 : decode cX6_goes 10 = .ok (.invokevirtual 128, 3) := by decide +kernel
theorem dX6_goes_13 : decode cX6_goes 13 = .ok (.if_icmp .lt 20, 3) := by decide +kernel
theorem dX6_goes_16 : decode cX6_goes 16 = .ok (.iload 4, 2) := by decide +kernel
theorem dX6_goes_18 : decode cX6_goes 18 = .ok (.aload_n 0, 1) := by decide +kernel
theorem dX6_goes_19 : decode cX6_goes 19 = .ok (.iload_n 1, 1) := by decide +kernel
theorem dX6_goes_20 : decode cX6_goes 20 = .ok (.iload_n 3, 1) := by decide +kernel
theorem dX6_goes_21 : decode cX6_goes 21 = .ok (.invokevirtual 128, 3) := by decide +kernel
theorem dX6_goes_24 : decode cX6_goes 24 = .ok (.isub, 1) := by decide +kernel
theorem dX6_goes_25 : decode cX6_goes 25 = .ok (.istore 4, 2) := by decide +kernel
theorem dX6_goes_27 : decode cX6_goes 27 = .ok (.iinc 3 1, 3) := by decide +kernel
theorem dX6_goes_30 : decode cX6_goes 30 = .ok (.goto (-25), 3) := by decide +kernel
theorem dX6_goes_33 : decode cX6_goes 33 = .ok (.aload_n 0, 1) := by decide +kernel
theorem dX6_goes_34 : decode cX6_goes 34 = .ok (.iload_n 1, 1) := by decide +kernel
theorem dX6_goes_35 : decode cX6_goes 35 = .ok (.iload_n 3, 1) := by decide +kernel
theorem dX6_goes_36 : decode cX6_goes 36 = .ok (.iconst 0, 1) := by decide +kernel
theorem dX6_goes_37 : decode cX6_goes 37 = .ok (.invokevirtual 111, 3) := by decide +kernel
theorem dX6_goes_40 : decode cX6_goes 40 = .ok (.istore 5, 2) := by decide +kernel
theorem dX6_goes_42 : decode cX6_goes 42 = .ok (.aload_n 0, 1) := by decide +kernel
theorem dX6_goes_43 : decode cX6_goes 43 = .ok (.iload_n 1, 1) := by decide +kernel
theorem dX6_goes_44 : decode cX6_goes 44 = .ok (.iload_n 3, 1) := by decide +kernel
theorem dX6_goes_45 : decode cX6_goes 45 = .ok (.iconst 1, 1) := by decide +kernel
theorem dX6_goes_46 : decode cX6_goes 46 = .ok (.invokevirtual 111, 3) := by decide +kernel
theorem dX6_goes_49 : decode cX6_goes 49 = .ok (.istore 6, 2) := by decide +kernel
theorem dX6_goes_51 : decode cX6_goes 51 = .ok (.aload_n 0, 1) := by decide +kernel
theorem dX6_goes_52 : decode cX6_goes 52 = .ok (.getfield 34, 3) := by decide +kernel
theorem dX6_goes_55 : decode cX6_goes 55 = .ok (.iload_n 1, 1) := by decide +kernel
theorem dX6_goes_56 : decode cX6_goes 56 = .ok (.iload_n 3, 1) := by decide +kernel
theorem dX6_goes_57 : decode cX6_goes 57 = .ok (.iastore, 1) := by decide +kernel
theorem dX6_goes_58 : decode cX6_goes 58 = .ok (.aload_n 0, 1) := by decide +kernel
theorem dX6_goes_59 : decode cX6_goes 59 = .ok (.getfield 37, 3) := by decide +kernel
theorem dX6_goes_62 : decode cX6_goes 62 = .ok (.iconst 3, 1) := by decide +kernel
theorem dX6_goes_63 : decode cX6_goes 63 = .ok (.iload_n 1, 1) := by decide +kernel
theorem dX6_goes_64 : decode cX6_goes 64 = .ok (.imul, 1) := by decide +kernel
theorem dX6_goes_65 : decode cX6_goes 65 = .ok (.aload_n 0, 1) := by decide +kernel
theorem dX6_goes_66 : decode cX6_goes 66 = .ok (.iload_n 1, 1) := by decide +kernel
theorem dX6_goes_67 : decode cX6_goes 67 = .ok (.iconst 0, 1) := by decide +kernel
theorem dX6_goes_68 : decode cX6_goes 68 = .ok (.iload 4, 2) := by decide +kernel
theorem dX6_goes_70 : decode cX6_goes 70 = .ok (.iload 5, 2) := by decide +kernel
theorem dX6_goes_72 : decode cX6_goes 72 = .ok (.irem, 1) := by decide +kernel
theorem dX6_goes_73 : decode cX6_goes 73 = .ok (.invokevirtual 131, 3) := by decide +kernel
theorem dX6_goes_76 : decode cX6_goes 76 = .ok (.iastore, 1) := by decide +kernel
theorem dX6_goes_77 : decode cX6_goes 77 = .ok (.aload_n 0, 1) := by decide +kernel
theorem dX6_goes_78 : decode cX6_goes 78 = .ok (.getfield 37, 3) := by decide +kernel
theorem dX6_goes_81 : decode cX6_goes 81 = .ok (.iconst 3, 1) := by decide +kernel
theorem dX6_goes_82 : decode cX6_goes 82 = .ok (.iload_n 1, 1) := by decide +kernel
theorem dX6_goes_83 : decode cX6_goes 83 = .ok (.imul, 1) := by decide +kernel
theorem dX6_goes_84 : decode cX6_goes 84 = .ok (.iconst 1, 1) := by decide +kernel
theorem dX6_goes_85 : decode cX6_goes 85 = .ok (.iadd, 1) := by decide +kernel
theorem dX6_goes_86 : decode cX6_goes 86 = .ok (.aload_n 0, 1) := by decide +kernel
theorem dX6_goes_87 : decode cX6_goes 87 = .ok (.iload_n 1, 1) := by decide +kernel
theorem dX6_goes_88 : decode cX6_goes 88 = .ok (.iconst 1, 1) := by decide +kernel
theorem dX6_goes_89 : decode cX6_goes 89 = .ok (.iload 4, 2) := by decide +kernel
theorem dX6_goes_91 : decode cX6_goes 91 = .ok (.iload 5, 2) := by decide +kernel
theorem dX6_goes_93 : decode cX6_goes 93 = .ok (.idiv, 1) := by decide +kernel
theorem dX6_goes_94 : decode cX6_goes 94 = .ok (.iload 6, 2) := by decide +kernel
theorem dX6_goes_96 : decode cX6_goes 96 = .ok (.irem, 1) := by decide +kernel
theorem dX6_goes_97 : decode cX6_goes 97 = .ok (.invokevirtual 131, 3) := by decide +kernel
theorem dX6_goes_100 : decode cX6_goes 100 = .ok (.iastore, 1) := by decide +kernel
theorem dX6_goes_101 : decode cX6_goes 101 = .ok (.aload_n 0, 1) := by decide +kernel
theorem dX6_goes_102 : decode cX6_goes 102 = .ok (.getfield 37, 3) := by decide +kernel
theorem dX6_goes_105 : decode cX6_goes 105 = .ok (.iconst 3, 1) := by decide +kernel
theorem dX6_goes_106 : decode cX6_goes 106 = .ok (.iload_n 1, 1) := by decide +kernel
theorem dX6_goes_107 : decode cX6_goes 107 = .ok (.imul, 1) := by decide +kernel
theorem dX6_goes_108 : decode cX6_goes 108 = .ok (.iconst 2, 1) := by decide +kernel
theorem dX6_goes_109 : decode cX6_goes 109 = .ok (.iadd, 1) := by decide +kernel
theorem dX6_goes_110 : decode cX6_goes 110 = .ok (.aload_n 0, 1) := by decide +kernel
theorem dX6_goes_111 : decode cX6_goes 111 = .ok (.iload_n 1, 1) := by decide +kernel
theorem dX6_goes_112 : decode cX6_goes 112 = .ok (.iconst 2, 1) := by decide +kernel
theorem dX6_goes_113 : decode cX6_goes 113 = .ok (.iload 4, 2) := by decide +kernel
theorem dX6_goes_115 : decode cX6_goes 115 = .ok (.iload 5, 2) := by decide +kernel
theorem dX6_goes_117 : decode cX6_goes 117 = .ok (.idiv, 1) := by decide +kernel
theorem dX6_goes_118 : decode cX6_goes 118 = .ok (.iload 6, 2) := by decide +kernel
theorem dX6_goes_120 : decode cX6_goes 120 = .ok (.idiv, 1) := by decide +kernel
theorem dX6_goes_121 : decode cX6_goes 121 = .ok (.invokevirtual 131, 3) := by decide +kernel
theorem dX6_goes_124 : decode cX6_goes 124 = .ok (.iastore, 1) := by decide +kernel
theorem dX6_goes_125 : decode cX6_goes 125 = .ok (.return_, 1) := by decide +kernel
theorem dX6_isApart_0 : decode cX6_isApart 0 = .ok (.iload_n 1, 1) := by decide +kernel
theorem dX6_isApart_1 : decode cX6_isApart 1 = .ok (.iload_n 2, 1) := by decide +kernel
theorem dX6_isApart_2 : decode cX6_isApart 2 = .ok (.iadd, 1) := by decide +kernel
theorem dX6_isApart_3 : decode cX6_isApart 3 = .ok (.iload_n 3, 1) := by decide +kernel
theorem dX6_isApart_4 : decode cX6_isApart 4 = .ok (.if_icmp .le 11, 3) := by decide +kernel
theorem dX6_isApart_7 : decode cX6_isApart 7 = .ok (.iload_n 3, 1) := by decide +kernel
theorem dX6_isApart_8 : decode cX6_isApart 8 = .ok (.iload 4, 2) := by decide +kernel
theorem dX6_isApart_10 : decode cX6_isApart 10 = .ok (.iadd, 1) := by decide +kernel
theorem dX6_isApart_11 : decode cX6_isApart 11 = .ok (.iload_n 1, 1) := by decide +kernel
theorem dX6_isApart_12 : decode cX6_isApart 12 = .ok (.if_icmp .gt 7, 3) := by decide +kernel
theorem dX6_isApart_15 : decode cX6_isApart 15 = .ok (.iconst 1, 1) := by decide +kernel
theorem dX6_isApart_16 : decode cX6_isApart 16 = .ok (.goto 4, 3) := by decide +kernel
theorem dX6_isApart_19 : decode cX6_isApart 19 = .ok (.iconst 0, 1) := by decide +kernel
theorem dX6_isApart_20 : decode cX6_isApart 20 = .ok (.ireturn, 1) := by decide +kernel
theorem dX6_isPlanned_0 : decode cX6_isPlanned 0 = .ok (.iconst 1, 1) := by decide +kernel
theorem dX6_isPlanned_1 : decode cX6_isPlanned 1 = .ok (.istore_n 2, 1) := by decide +kernel
theorem dX6_isPlanned_2 : decode cX6_isPlanned 2 = .ok (.iconst 0, 1) := by decide +kernel
theorem dX6_isPlanned_3 : decode cX6_isPlanned 3 = .ok (.istore_n 3, 1) := by decide +kernel
theorem dX6_isPlanned_4 : decode cX6_isPlanned 4 = .ok (.iload_n 3, 1) := by decide +kernel
theorem dX6_isPlanned_5 : decode cX6_isPlanned 5 = .ok (.aload_n 0, 1) := by decide +kernel
theorem dX6_isPlanned_6 : decode cX6_isPlanned 6 = .ok (.getfield 88, 3) := by decide +kernel
theorem dX6_isPlanned_9 : decode cX6_isPlanned 9 = .ok (.if_icmp .ge 106, 3) := by decide +kernel
theorem dX6_isPlanned_12 : decode cX6_isPlanned 12 = .ok (.iload_n 2, 1) := by decide +kernel
theorem dX6_isPlanned_13 : decode cX6_isPlanned 13 = .ok (.ifCond .eq 102, 3) := by decide +kernel
theorem dX6_isPlanned_16 : decode cX6_isPlanned 16 = .ok (.aload_n 0, 1) := by decide +kernel
theorem dX6_isPlanned_17 : decode cX6_isPlanned 17 = .ok (.getfield 28, 3) := by decide +kernel
theorem dX6_isPlanned_20 : decode cX6_isPlanned 20 = .ok (.iload_n 3, 1) := by decide +kernel
theorem dX6_isPlanned_21 : decode cX6_isPlanned 21 = .ok (.iaload, 1) := by decide +kernel
theorem dX6_isPlanned_22 : decode cX6_isPlanned 22 = .ok (.istore 4, 2) := by decide +kernel
theorem dX6_isPlanned_24 : decode cX6_isPlanned 24 = .ok (.iconst 0, 1) := by decide +kernel
theorem dX6_isPlanned_25 : decode cX6_isPlanned 25 = .ok (.istore_n 2, 1) := by decide +kernel
theorem dX6_isPlanned_26 : decode cX6_isPlanned 26 = .ok (.iconst 0, 1) := by decide +kernel
theorem dX6_isPlanned_27 : decode cX6_isPlanned 27 = .ok (.istore 5, 2) := by decide +kernel
theorem dX6_isPlanned_29 : decode cX6_isPlanned 29 = .ok (.iload 5, 2) := by decide +kernel
theorem dX6_isPlanned_31 : decode cX6_isPlanned 31 = .ok (.iconst 3, 1) := by decide +kernel
theorem dX6_isPlanned_32 : decode cX6_isPlanned 32 = .ok (.if_icmp .ge 77, 3) := by decide +kernel
theorem dX6_isPlanned_35 : decode cX6_isPlanned 35 = .ok (.iload_n 2, 1) := by decide +kernel
theorem dX6_isPlanned_36 : decode cX6_isPlanned 36 = .ok (.ifCond .ne 61, 3) := by decide +kernel
theorem dX6_isPlanned_39 : decode cX6_isPlanned 39 = .ok (.aload_n 0, 1) := by decide +kernel
theorem dX6_isPlanned_40 : decode cX6_isPlanned 40 = .ok (.aload_n 0, 1) := by decide +kernel
theorem dX6_isPlanned_41 : decode cX6_isPlanned 41 = .ok (.getfield 37, 3) := by decide +kernel
theorem dX6_isPlanned_44 : decode cX6_isPlanned 44 = .ok (.iconst 3, 1) := by decide +kernel
theorem dX6_isPlanned_45 : decode cX6_isPlanned 45 = .ok (.iload_n 1, 1) := by decide +kernel
theorem dX6_isPlanned_46 : decode cX6_isPlanned 46 = .ok (.imul, 1) := by decide +kernel
theorem dX6_isPlanned_47 : decode cX6_isPlanned 47 = .ok (.iload 5, 2) := by decide +kernel
theorem dX6_isPlanned_49 : decode cX6_isPlanned 49 = .ok (.iadd, 1) := by decide +kernel
theorem dX6_isPlanned_50 : decode cX6_isPlanned 50 = .ok (.iaload, 1) := by decide +kernel
theorem dX6_isPlanned_51 : decode cX6_isPlanned 51 = .ok (.aload_n 0, 1) := by decide +kernel
theorem dX6_isPlanned_52 : decode cX6_isPlanned 52 = .ok (.iload_n 1, 1) := by decide +kernel
theorem dX6_isPlanned_53 : decode cX6_isPlanned 53 = .ok (.aload_n 0, 1) := by decide +kernel
theorem dX6_isPlanned_54 : decode cX6_isPlanned 54 = .ok (.getfield 34, 3) := by decide +kernel
theorem dX6_isPlanned_57 : decode cX6_isPlanned 57 = .ok (.iload_n 1, 1) := by decide +kernel
theorem dX6_isPlanned_58 : decode cX6_isPlanned 58 = .ok (.iaload, 1) := by decide +kernel
theorem dX6_isPlanned_59 : decode cX6_isPlanned 59 = .ok (.iload 5, 2) := by decide +kernel
theorem dX6_isPlanned_61 : decode cX6_isPlanned 61 = .ok (.invokevirtual 121, 3) := by decide +kernel
theorem dX6_isPlanned_64 : decode cX6_isPlanned 64 = .ok (.aload_n 0, 1) := by decide +kernel
theorem dX6_isPlanned_65 : decode cX6_isPlanned 65 = .ok (.getfield 37, 3) := by decide +kernel
theorem dX6_isPlanned_68 : decode cX6_isPlanned 68 = .ok (.iconst 3, 1) := by decide +kernel
theorem dX6_isPlanned_69 : decode cX6_isPlanned 69 = .ok (.iload 4, 2) := by decide +kernel
theorem dX6_isPlanned_71 : decode cX6_isPlanned 71 = .ok (.imul, 1) := by decide +kernel
theorem dX6_isPlanned_72 : decode cX6_isPlanned 72 = .ok (.iload 5, 2) := by decide +kernel
theorem dX6_isPlanned_74 : decode cX6_isPlanned 74 = .ok (.iadd, 1) := by decide +kernel
theorem dX6_isPlanned_75 : decode cX6_isPlanned 75 = .ok (.iaload, 1) := by decide +kernel
theorem dX6_isPlanned_76 : decode cX6_isPlanned 76 = .ok (.aload_n 0, 1) := by decide +kernel
theorem dX6_isPlanned_77 : decode cX6_isPlanned 77 = .ok (.iload 4, 2) := by decide +kernel
theorem dX6_isPlanned_79 : decode cX6_isPlanned 79 = .ok (.aload_n 0, 1) := by decide +kernel
theorem dX6_isPlanned_80 : decode cX6_isPlanned 80 = .ok (.getfield 34, 3) := by decide +kernel
theorem dX6_isPlanned_83 : decode cX6_isPlanned 83 = .ok (.iload 4, 2) := by decide +kernel
theorem dX6_isPlanned_85 : decode cX6_isPlanned 85 = .ok (.iaload, 1) := by decide +kernel
theorem dX6_isPlanned_86 : decode cX6_isPlanned 86 = .ok (.iload 5, 2) := by decide +kernel
theorem dX6_isPlanned_88 : decode cX6_isPlanned 88 = .ok (.invokevirtual 121, 3) := by decide +kernel
theorem dX6_isPlanned_91 : decode cX6_isPlanned 91 = .ok (.invokevirtual 134, 3) := by decide +kernel
theorem dX6_isPlanned_94 : decode cX6_isPlanned 94 = .ok (.ifCond .eq 7, 3) := by decide +kernel
theorem dX6_isPlanned_97 : decode cX6_isPlanned 97 = .ok (.iconst 1, 1) := by decide +kernel
theorem dX6_isPlanned_98 : decode cX6_isPlanned 98 = .ok (.goto 4, 3) := by decide +kernel
theorem dX6_isPlanned_101 : decode cX6_isPlanned 101 = .ok (.iconst 0, 1) := by decide +kernel
theorem dX6_isPlanned_102 : decode cX6_isPlanned 102 = .ok (.istore_n 2, 1) := by decide +kernel
theorem dX6_isPlanned_103 : decode cX6_isPlanned 103 = .ok (.iinc 5 1, 3) := by decide +kernel
theorem dX6_isPlanned_106 : decode cX6_isPlanned 106 = .ok (.goto (-77), 3) := by decide +kernel
theorem dX6_isPlanned_109 : decode cX6_isPlanned 109 = .ok (.iinc 3 1, 3) := by decide +kernel
theorem dX6_isPlanned_112 : decode cX6_isPlanned 112 = .ok (.goto (-108), 3) := by decide +kernel
theorem dX6_isPlanned_115 : decode cX6_isPlanned 115 = .ok (.iload_n 2, 1) := by decide +kernel
theorem dX6_isPlanned_116 : decode cX6_isPlanned 116 = .ok (.ireturn, 1) := by decide +kernel
theorem dX6_run_0 : decode cX6_run 0 = .ok (.iload_n 1, 1) := by decide +kernel
theorem dX6_run_1 : decode cX6_run 1 = .ok (.iconst 1, 1) := by decide +kernel
theorem dX6_run_2 : decode cX6_run 2 = .ok (.if_icmp .lt 10, 3) := by decide +kernel
theorem dX6_run_5 : decode cX6_run 5 = .ok (.iload_n 1, 1) := by decide +kernel
theorem dX6_run_6 : decode cX6_run 6 = .ok (.sipush 20000, 3) := by decide +kernel
theorem dX6_run_9 : decode cX6_run 9 = .ok (.if_icmp .le 5, 3) := by decide +kernel
theorem dX6_run_12 : decode cX6_run 12 = .ok (.iconst (-1), 1) := by decide +kernel
theorem dX6_run_13 : decode cX6_run 13 = .ok (.ireturn, 1) := by decide +kernel
theorem dX6_run_14 : decode cX6_run 14 = .ok (.iload_n 1, 1) := by decide +kernel
theorem dX6_run_15 : decode cX6_run 15 = .ok (.istore_n 2, 1) := by decide +kernel
theorem dX6_run_16 : decode cX6_run 16 = .ok (.aload_n 0, 1) := by decide +kernel
theorem dX6_run_17 : decode cX6_run 17 = .ok (.getfield 85, 3) := by decide +kernel
theorem dX6_run_20 : decode cX6_run 20 = .ok (.ifCond .ne 159, 3) := by decide +kernel
theorem dX6_run_23 : decode cX6_run 23 = .ok (.aload_n 0, 1) := by decide +kernel
theorem dX6_run_24 : decode cX6_run 24 = .ok (.getfield 28, 3) := by decide +kernel
theorem dX6_run_27 : decode cX6_run 27 = .ok (.aload_n 0, 1) := by decide +kernel
theorem dX6_run_28 : decode cX6_run 28 = .ok (.getfield 88, 3) := by decide +kernel
theorem dX6_run_31 : decode cX6_run 31 = .ok (.iaload, 1) := by decide +kernel
theorem dX6_run_32 : decode cX6_run 32 = .ok (.istore_n 3, 1) := by decide +kernel
theorem dX6_run_33 : decode cX6_run 33 = .ok (.aload_n 0, 1) := by decide +kernel
theorem dX6_run_34 : decode cX6_run 34 = .ok (.getfield 31, 3) := by decide +kernel
theorem dX6_run_37 : decode cX6_run 37 = .ok (.aload_n 0, 1) := by decide +kernel
theorem dX6_run_38 : decode cX6_run 38 = .ok (.getfield 88, 3) := by decide +kernel
theorem dX6_run_41 : decode cX6_run 41 = .ok (.iaload, 1) := by decide +kernel
theorem dX6_run_42 : decode cX6_run 42 = .ok (.aload_n 0, 1) := by decide +kernel
theorem dX6_run_43 : decode cX6_run 43 = .ok (.iload_n 3, 1) := by decide +kernel
theorem dX6_run_44 : decode cX6_run 44 = .ok (.invokevirtual 138, 3) := by decide +kernel
theorem dX6_run_47 : decode cX6_run 47 = .ok (.if_icmp .ne 32, 3) := by decide +kernel
theorem dX6_run_50 : decode cX6_run 50 = .ok (.aload_n 0, 1) := by decide +kernel
theorem dX6_run_51 : decode cX6_run 51 = .ok (.dup, 1) := by decide +kernel
theorem dX6_run_52 : decode cX6_run 52 = .ok (.getfield 88, 3) := by decide +kernel
theorem dX6_run_55 : decode cX6_run 55 = .ok (.iconst 1, 1) := by decide +kernel
theorem dX6_run_56 : decode cX6_run 56 = .ok (.isub, 1) := by decide +kernel
theorem dX6_run_57 : decode cX6_run 57 = .ok (.putfield 88, 3) := by decide +kernel
theorem dX6_run_60 : decode cX6_run 60 = .ok (.aload_n 0, 1) := by decide +kernel
theorem dX6_run_61 : decode cX6_run 61 = .ok (.aload_n 0, 1) := by decide +kernel
theorem dX6_run_62 : decode cX6_run 62 = .ok (.getfield 88, 3) := by decide +kernel
theorem dX6_run_65 : decode cX6_run 65 = .ok (.ifCond .ge 7, 3) := by decide +kernel
theorem dX6_run_68 : decode cX6_run 68 = .ok (.iconst 2, 1) := by decide +kernel
theorem dX6_run_69 : decode cX6_run 69 = .ok (.goto 4, 3) := by decide +kernel
theorem dX6_run_72 : decode cX6_run 72 = .ok (.iconst 0, 1) := by decide +kernel
theorem dX6_run_73 : decode cX6_run 73 = .ok (.putfield 85, 3) := by decide +kernel
theorem dX6_run_76 : decode cX6_run 76 = .ok (.goto 100, 3) := by decide +kernel
theorem dX6_run_79 : decode cX6_run 79 = .ok (.iload_n 2, 1) := by decide +kernel
theorem dX6_run_80 : decode cX6_run 80 = .ok (.ifCond .ne 5, 3) := by decide +kernel
theorem dX6_run_83 : decode cX6_run 83 = .ok (.iconst 0, 1) := by decide +kernel
theorem dX6_run_84 : decode cX6_run 84 = .ok (.ireturn, 1) := by decide +kernel
theorem dX6_run_85 : decode cX6_run 85 = .ok (.iinc 2 (-1), 3) := by decide +kernel
theorem dX6_run_88 : decode cX6_run 88 = .ok (.aload_n 0, 1) := by decide +kernel
theorem dX6_run_89 : decode cX6_run 89 = .ok (.dup, 1) := by decide +kernel
theorem dX6_run_90 : decode cX6_run 90 = .ok (.getfield 91, 3) := by decide +kernel
theorem dX6_run_93 : decode cX6_run 93 = .ok (.lconst 1, 1) := by decide +kernel
theorem dX6_run_94 : decode cX6_run 94 = .ok (.ladd, 1) := by decide +kernel
theorem dX6_run_95 : decode cX6_run 95 = .ok (.putfield 91, 3) := by decide +kernel
theorem dX6_run_98 : decode cX6_run 98 = .ok (.aload_n 0, 1) := by decide +kernel
theorem dX6_run_99 : decode cX6_run 99 = .ok (.iload_n 3, 1) := by decide +kernel
theorem dX6_run_100 : decode cX6_run 100 = .ok (.aload_n 0, 1) := by decide +kernel
theorem dX6_run_101 : decode cX6_run 101 = .ok (.getfield 31, 3) := by decide +kernel
theorem dX6_run_104 : decode cX6_run 104 = .ok (.aload_n 0, 1) := by decide +kernel
theorem dX6_run_105 : decode cX6_run 105 = .ok (.getfield 88, 3) := by decide +kernel
theorem dX6_run_108 : decode cX6_run 108 = .ok (.dup2, 1) := by decide +kernel
theorem dX6_run_109 : decode cX6_run 109 = .ok (.iaload, 1) := by decide +kernel
theorem dX6_run_110 : decode cX6_run 110 = .ok (.dup_x2, 1) := by decide +kernel
theorem dX6_run_111 : decode cX6_run 111 = .ok (.iconst 1, 1) := by decide +kernel
theorem dX6_run_112 : decode cX6_run 112 = .ok (.iadd, 1) := by decide +kernel
theorem dX6_run_113 : decode cX6_run 113 = .ok (.iastore, 1) := by decide +kernel
theorem dX6_run_114 : decode cX6_run 114 = .ok (.invokevirtual 141, 3) := by decide +kernel
theorem dX6_run_117 : decode cX6_run 117 = .ok (.aload_n 0, 1) := by decide +kernel
theorem dX6_run_118 : decode cX6_run 118 = .ok (.iload_n 3, 1) := by decide +kernel
theorem dX6_run_119 : decode cX6_run 119 = .ok (.invokevirtual 144, 3) := by decide +kernel
theorem dX6_run_122 : decode cX6_run 122 = .ok (.ifCond .eq 54, 3) := by decide +kernel
theorem dX6_run_125 : decode cX6_run 125 = .ok (.aload_n 0, 1) := by decide +kernel
theorem dX6_run_126 : decode cX6_run 126 = .ok (.dup, 1) := by decide +kernel
theorem dX6_run_127 : decode cX6_run 127 = .ok (.getfield 88, 3) := by decide +kernel
theorem dX6_run_130 : decode cX6_run 130 = .ok (.iconst 1, 1) := by decide +kernel
theorem dX6_run_131 : decode cX6_run 131 = .ok (.iadd, 1) := by decide +kernel
theorem dX6_run_132 : decode cX6_run 132 = .ok (.putfield 88, 3) := by decide +kernel
theorem dX6_run_135 : decode cX6_run 135 = .ok (.aload_n 0, 1) := by decide +kernel
theorem dX6_run_136 : decode cX6_run 136 = .ok (.aload_n 0, 1) := by decide +kernel
theorem dX6_run_137 : decode cX6_run 137 = .ok (.getfield 88, 3) := by decide +kernel
theorem dX6_run_140 : decode cX6_run 140 = .ok (.aload_n 0, 1) := by decide +kernel
theorem dX6_run_141 : decode cX6_run 141 = .ok (.getfield 81, 3) := by decide +kernel
theorem dX6_run_144 : decode cX6_run 144 = .ok (.if_icmp .ne 7, 3) := by decide +kernel
theorem dX6_run_147 : decode cX6_run 147 = .ok (.iconst 1, 1) := by decide +kernel
theorem dX6_run_148 : decode cX6_run 148 = .ok (.goto 4, 3) := by decide +kernel
theorem dX6_run_151 : decode cX6_run 151 = .ok (.iconst 0, 1) := by decide +kernel
theorem dX6_run_152 : decode cX6_run 152 = .ok (.putfield 85, 3) := by decide +kernel
theorem dX6_run_155 : decode cX6_run 155 = .ok (.aload_n 0, 1) := by decide +kernel
theorem dX6_run_156 : decode cX6_run 156 = .ok (.getfield 88, 3) := by decide +kernel
theorem dX6_run_159 : decode cX6_run 159 = .ok (.aload_n 0, 1) := by decide +kernel
theorem dX6_run_160 : decode cX6_run 160 = .ok (.getfield 81, 3) := by decide +kernel
theorem dX6_run_163 : decode cX6_run 163 = .ok (.if_icmp .ge 13, 3) := by decide +kernel
theorem dX6_run_166 : decode cX6_run 166 = .ok (.aload_n 0, 1) := by decide +kernel
theorem dX6_run_167 : decode cX6_run 167 = .ok (.getfield 31, 3) := by decide +kernel
theorem dX6_run_170 : decode cX6_run 170 = .ok (.aload_n 0, 1) := by decide +kernel
theorem dX6_run_171 : decode cX6_run 171 = .ok (.getfield 88, 3) := by decide +kernel
theorem dX6_run_174 : decode cX6_run 174 = .ok (.iconst 0, 1) := by decide +kernel
end
section
theorem dX6_run_175 : decode cX6_run 175 = .ok (.iastore, 1) := by decide +kernel
theorem dX6_run_176 : decode cX6_run 176 = .ok (.goto (-160), 3) := by decide +kernel
theorem dX6_run_179 : decode cX6_run 179 = .ok (.aload_n 0, 1) := by decide +kernel
theorem dX6_run_180 : decode cX6_run 180 = .ok (.getfield 85, 3) := by decide +kernel
theorem dX6_run_183 : decode cX6_run 183 = .ok (.ireturn, 1) := by decide +kernel
theorem dX6_bin_0 : decode cX6_bin 0 = .ok (.iload_n 1, 1) := by decide +kernel
theorem dX6_bin_1 : decode cX6_bin 1 = .ok (.invokestatic 148, 3) := by decide +kernel
theorem dX6_bin_4 : decode cX6_bin 4 = .ok (.ifCond .eq 17, 3) := by decide +kernel
theorem dX6_bin_7 : decode cX6_bin 7 = .ok (.iload_n 2, 1) := by decide +kernel
theorem dX6_bin_8 : decode cX6_bin 8 = .ok (.invokestatic 148, 3) := by decide +kernel
theorem dX6_bin_11 : decode cX6_bin 11 = .ok (.ifCond .eq 10, 3) := by decide +kernel
theorem dX6_bin_14 : decode cX6_bin 14 = .ok (.iload_n 3, 1) := by decide +kernel
theorem dX6_bin_15 : decode cX6_bin 15 = .ok (.invokestatic 148, 3) := by decide +kernel
theorem dX6_bin_18 : decode cX6_bin 18 = .ok (.ifCond .ne 5, 3) := by decide +kernel
theorem dX6_bin_21 : decode cX6_bin 21 = .ok (.iconst (-1), 1) := by decide +kernel
theorem dX6_bin_22 : decode cX6_bin 22 = .ok (.ireturn, 1) := by decide +kernel
theorem dX6_bin_23 : decode cX6_bin 23 = .ok (.aload_n 0, 1) := by decide +kernel
theorem dX6_bin_24 : decode cX6_bin 24 = .ok (.getfield 7, 3) := by decide +kernel
theorem dX6_bin_27 : decode cX6_bin 27 = .ok (.iconst 0, 1) := by decide +kernel
theorem dX6_bin_28 : decode cX6_bin 28 = .ok (.iload_n 1, 1) := by decide +kernel
theorem dX6_bin_29 : decode cX6_bin 29 = .ok (.iastore, 1) := by decide +kernel
theorem dX6_bin_30 : decode cX6_bin 30 = .ok (.aload_n 0, 1) := by decide +kernel
theorem dX6_bin_31 : decode cX6_bin 31 = .ok (.getfield 7, 3) := by decide +kernel
theorem dX6_bin_34 : decode cX6_bin 34 = .ok (.iconst 1, 1) := by decide +kernel
theorem dX6_bin_35 : decode cX6_bin 35 = .ok (.iload_n 2, 1) := by decide +kernel
theorem dX6_bin_36 : decode cX6_bin 36 = .ok (.iastore, 1) := by decide +kernel
theorem dX6_bin_37 : decode cX6_bin 37 = .ok (.aload_n 0, 1) := by decide +kernel
theorem dX6_bin_38 : decode cX6_bin 38 = .ok (.getfield 7, 3) := by decide +kernel
theorem dX6_bin_41 : decode cX6_bin 41 = .ok (.iconst 2, 1) := by decide +kernel
theorem dX6_bin_42 : decode cX6_bin 42 = .ok (.iload_n 3, 1) := by decide +kernel
theorem dX6_bin_43 : decode cX6_bin 43 = .ok (.iastore, 1) := by decide +kernel
theorem dX6_bin_44 : decode cX6_bin 44 = .ok (.aload_n 0, 1) := by decide +kernel
theorem dX6_bin_45 : decode cX6_bin 45 = .ok (.invokevirtual 74, 3) := by decide +kernel
theorem dX6_bin_48 : decode cX6_bin 48 = .ok (.iconst 0, 1) := by decide +kernel
theorem dX6_bin_49 : decode cX6_bin 49 = .ok (.ireturn, 1) := by decide +kernel
theorem dX6_isSide_0 : decode cX6_isSide 0 = .ok (.iload_n 0, 1) := by decide +kernel
theorem dX6_isSide_1 : decode cX6_isSide 1 = .ok (.iconst 1, 1) := by decide +kernel
theorem dX6_isSide_2 : decode cX6_isSide 2 = .ok (.if_icmp .lt 13, 3) := by decide +kernel
theorem dX6_isSide_5 : decode cX6_isSide 5 = .ok (.iload_n 0, 1) := by decide +kernel
theorem dX6_isSide_6 : decode cX6_isSide 6 = .ok (.bipush 20, 2) := by decide +kernel
theorem dX6_isSide_8 : decode cX6_isSide 8 = .ok (.if_icmp .gt 7, 3) := by decide +kernel
theorem dX6_isSide_11 : decode cX6_isSide 11 = .ok (.iconst 1, 1) := by decide +kernel
theorem dX6_isSide_12 : decode cX6_isSide 12 = .ok (.goto 4, 3) := by decide +kernel
theorem dX6_isSide_15 : decode cX6_isSide 15 = .ok (.iconst 0, 1) := by decide +kernel
theorem dX6_isSide_16 : decode cX6_isSide 16 = .ok (.ireturn, 1) := by decide +kernel
theorem dX6_box_0 : decode cX6_box 0 = .ok (.iload_n 1, 1) := by decide +kernel
theorem dX6_box_1 : decode cX6_box 1 = .ok (.invokestatic 148, 3) := by decide +kernel
theorem dX6_box_4 : decode cX6_box 4 = .ok (.ifCond .eq 17, 3) := by decide +kernel
theorem dX6_box_7 : decode cX6_box 7 = .ok (.iload_n 2, 1) := by decide +kernel
theorem dX6_box_8 : decode cX6_box 8 = .ok (.invokestatic 148, 3) := by decide +kernel
theorem dX6_box_11 : decode cX6_box 11 = .ok (.ifCond .eq 10, 3) := by decide +kernel
theorem dX6_box_14 : decode cX6_box 14 = .ok (.iload_n 3, 1) := by decide +kernel
theorem dX6_box_15 : decode cX6_box 15 = .ok (.invokestatic 148, 3) := by decide +kernel
theorem dX6_box_18 : decode cX6_box 18 = .ok (.ifCond .ne 5, 3) := by decide +kernel
theorem dX6_box_21 : decode cX6_box 21 = .ok (.iconst (-1), 1) := by decide +kernel
theorem dX6_box_22 : decode cX6_box 22 = .ok (.ireturn, 1) := by decide +kernel
theorem dX6_box_23 : decode cX6_box 23 = .ok (.aload_n 0, 1) := by decide +kernel
theorem dX6_box_24 : decode cX6_box 24 = .ok (.getfield 81, 3) := by decide +kernel
theorem dX6_box_27 : decode cX6_box 27 = .ok (.bipush 8, 2) := by decide +kernel
theorem dX6_box_29 : decode cX6_box 29 = .ok (.if_icmp .ne 6, 3) := by decide +kernel
theorem dX6_box_32 : decode cX6_box 32 = .ok (.bipush (-3), 2) := by decide +kernel
theorem dX6_box_34 : decode cX6_box 34 = .ok (.ireturn, 1) := by decide +kernel
theorem dX6_box_35 : decode cX6_box 35 = .ok (.aload_n 0, 1) := by decide +kernel
theorem dX6_box_36 : decode cX6_box 36 = .ok (.getfield 13, 3) := by decide +kernel
theorem dX6_box_39 : decode cX6_box 39 = .ok (.iconst 3, 1) := by decide +kernel
theorem dX6_box_40 : decode cX6_box 40 = .ok (.aload_n 0, 1) := by decide +kernel
theorem dX6_box_41 : decode cX6_box 41 = .ok (.getfield 81, 3) := by decide +kernel
theorem dX6_box_44 : decode cX6_box 44 = .ok (.imul, 1) := by decide +kernel
theorem dX6_box_45 : decode cX6_box 45 = .ok (.iload_n 1, 1) := by decide +kernel
theorem dX6_box_46 : decode cX6_box 46 = .ok (.iastore, 1) := by decide +kernel
theorem dX6_box_47 : decode cX6_box 47 = .ok (.aload_n 0, 1) := by decide +kernel
theorem dX6_box_48 : decode cX6_box 48 = .ok (.getfield 13, 3) := by decide +kernel
theorem dX6_box_51 : decode cX6_box 51 = .ok (.iconst 3, 1) := by decide +kernel
theorem dX6_box_52 : decode cX6_box 52 = .ok (.aload_n 0, 1) := by decide +kernel
theorem dX6_box_53 : decode cX6_box 53 = .ok (.getfield 81, 3) := by decide +kernel
theorem dX6_box_56 : decode cX6_box 56 = .ok (.imul, 1) := by decide +kernel
theorem dX6_box_57 : decode cX6_box 57 = .ok (.iconst 1, 1) := by decide +kernel
theorem dX6_box_58 : decode cX6_box 58 = .ok (.iadd, 1) := by decide +kernel
theorem dX6_box_59 : decode cX6_box 59 = .ok (.iload_n 2, 1) := by decide +kernel
theorem dX6_box_60 : decode cX6_box 60 = .ok (.iastore, 1) := by decide +kernel
theorem dX6_box_61 : decode cX6_box 61 = .ok (.aload_n 0, 1) := by decide +kernel
theorem dX6_box_62 : decode cX6_box 62 = .ok (.getfield 13, 3) := by decide +kernel
theorem dX6_box_65 : decode cX6_box 65 = .ok (.iconst 3, 1) := by decide +kernel
theorem dX6_box_66 : decode cX6_box 66 = .ok (.aload_n 0, 1) := by decide +kernel
theorem dX6_box_67 : decode cX6_box 67 = .ok (.getfield 81, 3) := by decide +kernel
theorem dX6_box_70 : decode cX6_box 70 = .ok (.imul, 1) := by decide +kernel
theorem dX6_box_71 : decode cX6_box 71 = .ok (.iconst 2, 1) := by decide +kernel
theorem dX6_box_72 : decode cX6_box 72 = .ok (.iadd, 1) := by decide +kernel
theorem dX6_box_73 : decode cX6_box 73 = .ok (.iload_n 3, 1) := by decide +kernel
theorem dX6_box_74 : decode cX6_box 74 = .ok (.iastore, 1) := by decide +kernel
theorem dX6_box_75 : decode cX6_box 75 = .ok (.aload_n 0, 1) := by decide +kernel
theorem dX6_box_76 : decode cX6_box 76 = .ok (.getfield 16, 3) := by decide +kernel
theorem dX6_box_79 : decode cX6_box 79 = .ok (.aload_n 0, 1) := by decide +kernel
theorem dX6_box_80 : decode cX6_box 80 = .ok (.getfield 81, 3) := by decide +kernel
theorem dX6_box_83 : decode cX6_box 83 = .ok (.iconst 1, 1) := by decide +kernel
theorem dX6_box_84 : decode cX6_box 84 = .ok (.iastore, 1) := by decide +kernel
theorem dX6_box_85 : decode cX6_box 85 = .ok (.aload_n 0, 1) := by decide +kernel
theorem dX6_box_86 : decode cX6_box 86 = .ok (.getfield 19, 3) := by decide +kernel
theorem dX6_box_89 : decode cX6_box 89 = .ok (.aload_n 0, 1) := by decide +kernel
theorem dX6_box_90 : decode cX6_box 90 = .ok (.dup, 1) := by decide +kernel
theorem dX6_box_91 : decode cX6_box 91 = .ok (.getfield 81, 3) := by decide +kernel
theorem dX6_box_94 : decode cX6_box 94 = .ok (.dup_x1, 1) := by decide +kernel
theorem dX6_box_95 : decode cX6_box 95 = .ok (.iconst 1, 1) := by decide +kernel
theorem dX6_box_96 : decode cX6_box 96 = .ok (.iadd, 1) := by decide +kernel
theorem dX6_box_97 : decode cX6_box 97 = .ok (.putfield 81, 3) := by decide +kernel
theorem dX6_box_100 : decode cX6_box 100 = .ok (.iconst 1, 1) := by decide +kernel
theorem dX6_box_101 : decode cX6_box 101 = .ok (.iastore, 1) := by decide +kernel
theorem dX6_box_102 : decode cX6_box 102 = .ok (.aload_n 0, 1) := by decide +kernel
theorem dX6_box_103 : decode cX6_box 103 = .ok (.invokevirtual 74, 3) := by decide +kernel
theorem dX6_box_106 : decode cX6_box 106 = .ok (.aload_n 0, 1) := by decide +kernel
theorem dX6_box_107 : decode cX6_box 107 = .ok (.getfield 81, 3) := by decide +kernel
theorem dX6_box_110 : decode cX6_box 110 = .ok (.iconst 1, 1) := by decide +kernel
theorem dX6_box_111 : decode cX6_box 111 = .ok (.isub, 1) := by decide +kernel
theorem dX6_box_112 : decode cX6_box 112 = .ok (.ireturn, 1) := by decide +kernel
theorem dX6_isBox_0 : decode cX6_isBox 0 = .ok (.iload_n 1, 1) := by decide +kernel
theorem dX6_isBox_1 : decode cX6_isBox 1 = .ok (.ifCond .lt 15, 3) := by decide +kernel
theorem dX6_isBox_4 : decode cX6_isBox 4 = .ok (.iload_n 1, 1) := by decide +kernel
theorem dX6_isBox_5 : decode cX6_isBox 5 = .ok (.aload_n 0, 1) := by decide +kernel
theorem dX6_isBox_6 : decode cX6_isBox 6 = .ok (.getfield 81, 3) := by decide +kernel
theorem dX6_isBox_9 : decode cX6_isBox 9 = .ok (.if_icmp .ge 7, 3) := by decide +kernel
theorem dX6_isBox_12 : decode cX6_isBox 12 = .ok (.iconst 1, 1) := by decide +kernel
theorem dX6_isBox_13 : decode cX6_isBox 13 = .ok (.goto 4, 3) := by decide +kernel
theorem dX6_isBox_16 : decode cX6_isBox 16 = .ok (.iconst 0, 1) := by decide +kernel
theorem dX6_isBox_17 : decode cX6_isBox 17 = .ok (.ireturn, 1) := by decide +kernel
theorem dX6_turns_0 : decode cX6_turns 0 = .ok (.aload_n 0, 1) := by decide +kernel
theorem dX6_turns_1 : decode cX6_turns 1 = .ok (.iload_n 1, 1) := by decide +kernel
theorem dX6_turns_2 : decode cX6_turns 2 = .ok (.invokevirtual 151, 3) := by decide +kernel
theorem dX6_turns_5 : decode cX6_turns 5 = .ok (.ifCond .eq 14, 3) := by decide +kernel
theorem dX6_turns_8 : decode cX6_turns 8 = .ok (.iload_n 2, 1) := by decide +kernel
theorem dX6_turns_9 : decode cX6_turns 9 = .ok (.iconst 1, 1) := by decide +kernel
theorem dX6_turns_10 : decode cX6_turns 10 = .ok (.if_icmp .lt 9, 3) := by decide +kernel
theorem dX6_turns_13 : decode cX6_turns 13 = .ok (.iload_n 2, 1) := by decide +kernel
theorem dX6_turns_14 : decode cX6_turns 14 = .ok (.bipush 63, 2) := by decide +kernel
theorem dX6_turns_16 : decode cX6_turns 16 = .ok (.if_icmp .le 5, 3) := by decide +kernel
theorem dX6_turns_19 : decode cX6_turns 19 = .ok (.iconst (-1), 1) := by decide +kernel
theorem dX6_turns_20 : decode cX6_turns 20 = .ok (.ireturn, 1) := by decide +kernel
theorem dX6_turns_21 : decode cX6_turns 21 = .ok (.aload_n 0, 1) := by decide +kernel
theorem dX6_turns_22 : decode cX6_turns 22 = .ok (.getfield 19, 3) := by decide +kernel
theorem dX6_turns_25 : decode cX6_turns 25 = .ok (.iload_n 1, 1) := by decide +kernel
theorem dX6_turns_26 : decode cX6_turns 26 = .ok (.iaload, 1) := by decide +kernel
theorem dX6_turns_27 : decode cX6_turns 27 = .ok (.istore_n 3, 1) := by decide +kernel
theorem dX6_turns_28 : decode cX6_turns 28 = .ok (.aload_n 0, 1) := by decide +kernel
theorem dX6_turns_29 : decode cX6_turns 29 = .ok (.getfield 19, 3) := by decide +kernel
theorem dX6_turns_32 : decode cX6_turns 32 = .ok (.iload_n 1, 1) := by decide +kernel
theorem dX6_turns_33 : decode cX6_turns 33 = .ok (.iload_n 2, 1) := by decide +kernel
theorem dX6_turns_34 : decode cX6_turns 34 = .ok (.iastore, 1) := by decide +kernel
theorem dX6_turns_35 : decode cX6_turns 35 = .ok (.aload_n 0, 1) := by decide +kernel
theorem dX6_turns_36 : decode cX6_turns 36 = .ok (.invokevirtual 74, 3) := by decide +kernel
theorem dX6_turns_39 : decode cX6_turns 39 = .ok (.iload_n 3, 1) := by decide +kernel
theorem dX6_turns_40 : decode cX6_turns 40 = .ok (.ireturn, 1) := by decide +kernel
theorem dX6_weight_0 : decode cX6_weight 0 = .ok (.aload_n 0, 1) := by decide +kernel
theorem dX6_weight_1 : decode cX6_weight 1 = .ok (.iload_n 1, 1) := by decide +kernel
theorem dX6_weight_2 : decode cX6_weight 2 = .ok (.invokevirtual 151, 3) := by decide +kernel
theorem dX6_weight_5 : decode cX6_weight 5 = .ok (.ifCond .eq 14, 3) := by decide +kernel
theorem dX6_weight_8 : decode cX6_weight 8 = .ok (.iload_n 2, 1) := by decide +kernel
theorem dX6_weight_9 : decode cX6_weight 9 = .ok (.ifCond .lt 10, 3) := by decide +kernel
theorem dX6_weight_12 : decode cX6_weight 12 = .ok (.iload_n 2, 1) := by decide +kernel
theorem dX6_weight_13 : decode cX6_weight 13 = .ok (.sipush 1000, 3) := by decide +kernel
theorem dX6_weight_16 : decode cX6_weight 16 = .ok (.if_icmp .le 5, 3) := by decide +kernel
theorem dX6_weight_19 : decode cX6_weight 19 = .ok (.iconst (-1), 1) := by decide +kernel
theorem dX6_weight_20 : decode cX6_weight 20 = .ok (.ireturn, 1) := by decide +kernel
theorem dX6_weight_21 : decode cX6_weight 21 = .ok (.aload_n 0, 1) := by decide +kernel
theorem dX6_weight_22 : decode cX6_weight 22 = .ok (.getfield 16, 3) := by decide +kernel
theorem dX6_weight_25 : decode cX6_weight 25 = .ok (.iload_n 1, 1) := by decide +kernel
theorem dX6_weight_26 : decode cX6_weight 26 = .ok (.iaload, 1) := by decide +kernel
theorem dX6_weight_27 : decode cX6_weight 27 = .ok (.istore_n 3, 1) := by decide +kernel
theorem dX6_weight_28 : decode cX6_weight 28 = .ok (.aload_n 0, 1) := by decide +kernel
theorem dX6_weight_29 : decode cX6_weight 29 = .ok (.getfield 16, 3) := by decide +kernel
theorem dX6_weight_32 : decode cX6_weight 32 = .ok (.iload_n 1, 1) := by decide +kernel
theorem dX6_weight_33 : decode cX6_weight 33 = .ok (.iload_n 2, 1) := by decide +kernel
theorem dX6_weight_34 : decode cX6_weight 34 = .ok (.iastore, 1) := by decide +kernel
theorem dX6_weight_35 : decode cX6_weight 35 = .ok (.iload_n 3, 1) := by decide +kernel
theorem dX6_weight_36 : decode cX6_weight 36 = .ok (.ireturn, 1) := by decide +kernel
theorem dX6_clear_0 : decode cX6_clear 0 = .ok (.aload_n 0, 1) := by decide +kernel
theorem dX6_clear_1 : decode cX6_clear 1 = .ok (.getfield 81, 3) := by decide +kernel
theorem dX6_clear_4 : decode cX6_clear 4 = .ok (.istore_n 1, 1) := by decide +kernel
theorem dX6_clear_5 : decode cX6_clear 5 = .ok (.aload_n 0, 1) := by decide +kernel
theorem dX6_clear_6 : decode cX6_clear 6 = .ok (.iconst 0, 1) := by decide +kernel
theorem dX6_clear_7 : decode cX6_clear 7 = .ok (.putfield 81, 3) := by decide +kernel
theorem dX6_clear_10 : decode cX6_clear 10 = .ok (.aload_n 0, 1) := by decide +kernel
theorem dX6_clear_11 : decode cX6_clear 11 = .ok (.invokevirtual 74, 3) := by decide +kernel
theorem dX6_clear_14 : decode cX6_clear 14 = .ok (.iload_n 1, 1) := by decide +kernel
theorem dX6_clear_15 : decode cX6_clear 15 = .ok (.ireturn, 1) := by decide +kernel
theorem dX6_told_0 : decode cX6_told 0 = .ok (.iload_n 1, 1) := by decide +kernel
theorem dX6_told_1 : decode cX6_told 1 = .ok (.ifCond .ne 9, 3) := by decide +kernel
theorem dX6_told_4 : decode cX6_told 4 = .ok (.aload_n 0, 1) := by decide +kernel
theorem dX6_told_5 : decode cX6_told 5 = .ok (.getfield 91, 3) := by decide +kernel
theorem dX6_told_8 : decode cX6_told 8 = .ok (.l2i, 1) := by decide +kernel
theorem dX6_told_9 : decode cX6_told 9 = .ok (.ireturn, 1) := by decide +kernel
theorem dX6_told_10 : decode cX6_told 10 = .ok (.iload_n 1, 1) := by decide +kernel
theorem dX6_told_11 : decode cX6_told 11 = .ok (.ifCond .lt 16, 3) := by decide +kernel
theorem dX6_told_14 : decode cX6_told 14 = .ok (.iload_n 1, 1) := by decide +kernel
theorem dX6_told_15 : decode cX6_told 15 = .ok (.iconst 5, 1) := by decide +kernel
theorem dX6_told_16 : decode cX6_told 16 = .ok (.if_icmp .gt 11, 3) := by decide +kernel
theorem dX6_told_19 : decode cX6_told 19 = .ok (.aload_n 0, 1) := by decide +kernel
theorem dX6_told_20 : decode cX6_told 20 = .ok (.iload_n 2, 1) := by decide +kernel
theorem dX6_told_21 : decode cX6_told 21 = .ok (.invokevirtual 151, 3) := by decide +kernel
theorem dX6_told_24 : decode cX6_told 24 = .ok (.ifCond .ne 5, 3) := by decide +kernel
theorem dX6_told_27 : decode cX6_told 27 = .ok (.iconst (-1), 1) := by decide +kernel
theorem dX6_told_28 : decode cX6_told 28 = .ok (.ireturn, 1) := by decide +kernel
theorem dX6_told_29 : decode cX6_told 29 = .ok (.iload_n 1, 1) := by decide +kernel
theorem dX6_told_30 : decode cX6_told 30 = .ok (.iconst 3, 1) := by decide +kernel
theorem dX6_told_31 : decode cX6_told 31 = .ok (.if_icmp .ge 23, 3) := by decide +kernel
theorem dX6_told_34 : decode cX6_told 34 = .ok (.iload_n 1, 1) := by decide +kernel
theorem dX6_told_35 : decode cX6_told 35 = .ok (.iconst 1, 1) := by decide +kernel
theorem dX6_told_36 : decode cX6_told 36 = .ok (.if_icmp .ne 12, 3) := by decide +kernel
theorem dX6_told_39 : decode cX6_told 39 = .ok (.aload_n 0, 1) := by decide +kernel
theorem dX6_told_40 : decode cX6_told 40 = .ok (.getfield 28, 3) := by decide +kernel
theorem dX6_told_43 : decode cX6_told 43 = .ok (.iload_n 2, 1) := by decide +kernel
theorem dX6_told_44 : decode cX6_told 44 = .ok (.iaload, 1) := by decide +kernel
theorem dX6_told_45 : decode cX6_told 45 = .ok (.goto 8, 3) := by decide +kernel
theorem dX6_told_48 : decode cX6_told 48 = .ok (.aload_n 0, 1) := by decide +kernel
theorem dX6_told_49 : decode cX6_told 49 = .ok (.iload_n 2, 1) := by decide +kernel
theorem dX6_told_50 : decode cX6_told 50 = .ok (.invokevirtual 138, 3) := by decide +kernel
theorem dX6_told_53 : decode cX6_told 53 = .ok (.ireturn, 1) := by decide +kernel
theorem dX6_told_54 : decode cX6_told 54 = .ok (.iconst 0, 1) := by decide +kernel
theorem dX6_told_55 : decode cX6_told 55 = .ok (.istore_n 3, 1) := by decide +kernel
theorem dX6_told_56 : decode cX6_told 56 = .ok (.iconst 0, 1) := by decide +kernel
theorem dX6_told_57 : decode cX6_told 57 = .ok (.istore 4, 2) := by decide +kernel
theorem dX6_told_59 : decode cX6_told 59 = .ok (.iload 4, 2) := by decide +kernel
theorem dX6_told_61 : decode cX6_told 61 = .ok (.aload_n 0, 1) := by decide +kernel
theorem dX6_told_62 : decode cX6_told 62 = .ok (.getfield 7, 3) := by decide +kernel
theorem dX6_told_65 : decode cX6_told 65 = .ok (.iload_n 1, 1) := by decide +kernel
theorem dX6_told_66 : decode cX6_told 66 = .ok (.iconst 3, 1) := by decide +kernel
theorem dX6_told_67 : decode cX6_told 67 = .ok (.isub, 1) := by decide +kernel
theorem dX6_told_68 : decode cX6_told 68 = .ok (.iaload, 1) := by decide +kernel
theorem dX6_told_69 : decode cX6_told 69 = .ok (.if_icmp .gt 30, 3) := by decide +kernel
theorem dX6_told_72 : decode cX6_told 72 = .ok (.iload_n 3, 1) := by decide +kernel
theorem dX6_told_73 : decode cX6_told 73 = .ok (.aload_n 0, 1) := by decide +kernel
theorem dX6_told_74 : decode cX6_told 74 = .ok (.iload_n 2, 1) := by decide +kernel
theorem dX6_told_75 : decode cX6_told 75 = .ok (.iload_n 1, 1) := by decide +kernel
theorem dX6_told_76 : decode cX6_told 76 = .ok (.iconst 3, 1) := by decide +kernel
theorem dX6_told_77 : decode cX6_told 77 = .ok (.isub, 1) := by decide +kernel
theorem dX6_told_78 : decode cX6_told 78 = .ok (.iload 4, 2) := by decide +kernel
theorem dX6_told_80 : decode cX6_told 80 = .ok (.invokevirtual 124, 3) := by decide +kernel
theorem dX6_told_83 : decode cX6_told 83 = .ok (.ifCond .eq 7, 3) := by decide +kernel
theorem dX6_told_86 : decode cX6_told 86 = .ok (.iconst 1, 1) := by decide +kernel
theorem dX6_told_87 : decode cX6_told 87 = .ok (.goto 4, 3) := by decide +kernel
theorem dX6_told_90 : decode cX6_told 90 = .ok (.iconst 0, 1) := by decide +kernel
theorem dX6_told_91 : decode cX6_told 91 = .ok (.iadd, 1) := by decide +kernel
theorem dX6_told_92 : decode cX6_told 92 = .ok (.istore_n 3, 1) := by decide +kernel
theorem dX6_told_93 : decode cX6_told 93 = .ok (.iinc 4 1, 3) := by decide +kernel
theorem dX6_told_96 : decode cX6_told 96 = .ok (.goto (-37), 3) := by decide +kernel
theorem dX6_told_99 : decode cX6_told 99 = .ok (.iload_n 3, 1) := by decide +kernel
theorem dX6_told_100 : decode cX6_told 100 = .ok (.ireturn, 1) := by decide +kernel
theorem dX6_plan_0 : decode cX6_plan 0 = .ok (.aload_n 0, 1) := by decide +kernel
theorem dX6_plan_1 : decode cX6_plan 1 = .ok (.getfield 85, 3) := by decide +kernel
theorem dX6_plan_4 : decode cX6_plan 4 = .ok (.iconst 1, 1) := by decide +kernel
theorem dX6_plan_5 : decode cX6_plan 5 = .ok (.if_icmp .eq 6, 3) := by decide +kernel
theorem dX6_plan_8 : decode cX6_plan 8 = .ok (.bipush (-2), 2) := by decide +kernel
theorem dX6_plan_10 : decode cX6_plan 10 = .ok (.ireturn, 1) := by decide +kernel
theorem dX6_plan_11 : decode cX6_plan 11 = .ok (.iconst 0, 1) := by decide +kernel
theorem dX6_plan_12 : decode cX6_plan 12 = .ok (.istore_n 1, 1) := by decide +kernel
theorem dX6_plan_13 : decode cX6_plan 13 = .ok (.iload_n 1, 1) := by decide +kernel
theorem dX6_plan_14 : decode cX6_plan 14 = .ok (.aload_n 0, 1) := by decide +kernel
theorem dX6_plan_15 : decode cX6_plan 15 = .ok (.getfield 81, 3) := by decide +kernel
theorem dX6_plan_18 : decode cX6_plan 18 = .ok (.if_icmp .ge 56, 3) := by decide +kernel
theorem dX6_plan_21 : decode cX6_plan 21 = .ok (.aload_n 0, 1) := by decide +kernel
theorem dX6_plan_22 : decode cX6_plan 22 = .ok (.getfield 22, 3) := by decide +kernel
theorem dX6_plan_25 : decode cX6_plan 25 = .ok (.iload_n 1, 1) := by decide +kernel
theorem dX6_plan_26 : decode cX6_plan 26 = .ok (.aload_n 0, 1) := by decide +kernel
theorem dX6_plan_27 : decode cX6_plan 27 = .ok (.getfield 34, 3) := by decide +kernel
theorem dX6_plan_30 : decode cX6_plan 30 = .ok (.iload_n 1, 1) := by decide +kernel
theorem dX6_plan_31 : decode cX6_plan 31 = .ok (.iaload, 1) := by decide +kernel
theorem dX6_plan_32 : decode cX6_plan 32 = .ok (.iconst 1, 1) := by decide +kernel
theorem dX6_plan_33 : decode cX6_plan 33 = .ok (.iadd, 1) := by decide +kernel
theorem dX6_plan_34 : decode cX6_plan 34 = .ok (.iastore, 1) := by decide +kernel
theorem dX6_plan_35 : decode cX6_plan 35 = .ok (.iconst 0, 1) := by decide +kernel
theorem dX6_plan_36 : decode cX6_plan 36 = .ok (.istore_n 2, 1) := by decide +kernel
theorem dX6_plan_37 : decode cX6_plan 37 = .ok (.iload_n 2, 1) := by decide +kernel
theorem dX6_plan_38 : decode cX6_plan 38 = .ok (.iconst 3, 1) := by decide +kernel
theorem dX6_plan_39 : decode cX6_plan 39 = .ok (.if_icmp .ge 29, 3) := by decide +kernel
theorem dX6_plan_42 : decode cX6_plan 42 = .ok (.aload_n 0, 1) := by decide +kernel
theorem dX6_plan_43 : decode cX6_plan 43 = .ok (.getfield 25, 3) := by decide +kernel
theorem dX6_plan_46 : decode cX6_plan 46 = .ok (.iconst 3, 1) := by decide +kernel
theorem dX6_plan_47 : decode cX6_plan 47 = .ok (.iload_n 1, 1) := by decide +kernel
theorem dX6_plan_48 : decode cX6_plan 48 = .ok (.imul, 1) := by decide +kernel
theorem dX6_plan_49 : decode cX6_plan 49 = .ok (.iload_n 2, 1) := by decide +kernel
theorem dX6_plan_50 : decode cX6_plan 50 = .ok (.iadd, 1) := by decide +kernel
theorem dX6_plan_51 : decode cX6_plan 51 = .ok (.aload_n 0, 1) := by decide +kernel
theorem dX6_plan_52 : decode cX6_plan 52 = .ok (.getfield 37, 3) := by decide +kernel
theorem dX6_plan_55 : decode cX6_plan 55 = .ok (.iconst 3, 1) := by decide +kernel
theorem dX6_plan_56 : decode cX6_plan 56 = .ok (.iload_n 1, 1) := by decide +kernel
theorem dX6_plan_57 : decode cX6_plan 57 = .ok (.imul, 1) := by decide +kernel
theorem dX6_plan_58 : decode cX6_plan 58 = .ok (.iload_n 2, 1) := by decide +kernel
theorem dX6_plan_59 : decode cX6_plan 59 = .ok (.iadd, 1) := by decide +kernel
theorem dX6_plan_60 : decode cX6_plan 60 = .ok (.iaload, 1) := by decide +kernel
theorem dX6_plan_61 : decode cX6_plan 61 = .ok (.iastore, 1) := by decide +kernel
theorem dX6_plan_62 : decode cX6_plan 62 = .ok (.iinc 2 1, 3) := by decide +kernel
theorem dX6_plan_65 : decode cX6_plan 65 = .ok (.goto (-28), 3) := by decide +kernel
theorem dX6_plan_68 : decode cX6_plan 68 = .ok (.iinc 1 1, 3) := by decide +kernel
theorem dX6_plan_71 : decode cX6_plan 71 = .ok (.goto (-58), 3) := by decide +kernel
theorem dX6_plan_74 : decode cX6_plan 74 = .ok (.aload_n 0, 1) := by decide +kernel
theorem dX6_plan_75 : decode cX6_plan 75 = .ok (.getfield 81, 3) := by decide +kernel
theorem dX6_plan_78 : decode cX6_plan 78 = .ok (.ireturn, 1) := by decide +kernel
theorem dX6_isPlace_0 : decode cX6_isPlace 0 = .ok (.aload_n 0, 1) := by decide +kernel
theorem dX6_isPlace_1 : decode cX6_isPlace 1 = .ok (.iload_n 1, 1) := by decide +kernel
theorem dX6_isPlace_2 : decode cX6_isPlace 2 = .ok (.invokevirtual 151, 3) := by decide +kernel
theorem dX6_isPlace_5 : decode cX6_isPlace 5 = .ok (.ifCond .eq 96, 3) := by decide +kernel
theorem dX6_isPlace_8 : decode cX6_isPlace 8 = .ok (.iload_n 2, 1) := by decide +kernel
theorem dX6_isPlace_9 : decode cX6_isPlace 9 = .ok (.ifCond .lt 92, 3) := by decide +kernel
theorem dX6_isPlace_12 : decode cX6_isPlace 12 = .ok (.iload_n 2, 1) := by decide +kernel
theorem dX6_isPlace_13 : decode cX6_isPlace 13 = .ok (.bipush 6, 2) := by decide +kernel
theorem dX6_isPlace_15 : decode cX6_isPlace 15 = .ok (.if_icmp .ge 86, 3) := by decide +kernel
theorem dX6_isPlace_18 : decode cX6_isPlace 18 = .ok (.aload_n 0, 1) := by decide +kernel
theorem dX6_isPlace_19 : decode cX6_isPlace 19 = .ok (.iload_n 1, 1) := by decide +kernel
theorem dX6_isPlace_20 : decode cX6_isPlace 20 = .ok (.iload_n 2, 1) := by decide +kernel
theorem dX6_isPlace_21 : decode cX6_isPlace 21 = .ok (.invokevirtual 118, 3) := by decide +kernel
theorem dX6_isPlace_24 : decode cX6_isPlace 24 = .ok (.ifCond .eq 77, 3) := by decide +kernel
theorem dX6_isPlace_27 : decode cX6_isPlace 27 = .ok (.iload_n 3, 1) := by decide +kernel
theorem dX6_isPlace_28 : decode cX6_isPlace 28 = .ok (.ifCond .lt 73, 3) := by decide +kernel
theorem dX6_isPlace_31 : decode cX6_isPlace 31 = .ok (.iload_n 3, 1) := by decide +kernel
theorem dX6_isPlace_32 : decode cX6_isPlace 32 = .ok (.aload_n 0, 1) := by decide +kernel
theorem dX6_isPlace_33 : decode cX6_isPlace 33 = .ok (.getfield 7, 3) := by decide +kernel
theorem dX6_isPlace_36 : decode cX6_isPlace 36 = .ok (.iconst 0, 1) := by decide +kernel
theorem dX6_isPlace_37 : decode cX6_isPlace 37 = .ok (.iaload, 1) := by decide +kernel
theorem dX6_isPlace_38 : decode cX6_isPlace 38 = .ok (.aload_n 0, 1) := by decide +kernel
theorem dX6_isPlace_39 : decode cX6_isPlace 39 = .ok (.iload_n 1, 1) := by decide +kernel
theorem dX6_isPlace_40 : decode cX6_isPlace 40 = .ok (.iload_n 2, 1) := by decide +kernel
theorem dX6_isPlace_41 : decode cX6_isPlace 41 = .ok (.iconst 0, 1) := by decide +kernel
theorem dX6_isPlace_42 : decode cX6_isPlace 42 = .ok (.invokevirtual 121, 3) := by decide +kernel
theorem dX6_isPlace_45 : decode cX6_isPlace 45 = .ok (.isub, 1) := by decide +kernel
theorem dX6_isPlace_46 : decode cX6_isPlace 46 = .ok (.if_icmp .gt 55, 3) := by decide +kernel
theorem dX6_isPlace_49 : decode cX6_isPlace 49 = .ok (.iload 4, 2) := by decide +kernel
theorem dX6_isPlace_51 : decode cX6_isPlace 51 = .ok (.ifCond .lt 50, 3) := by decide +kernel
theorem dX6_isPlace_54 : decode cX6_isPlace 54 = .ok (.iload 4, 2) := by decide +kernel
theorem dX6_isPlace_56 : decode cX6_isPlace 56 = .ok (.aload_n 0, 1) := by decide +kernel
theorem dX6_isPlace_57 : decode cX6_isPlace 57 = .ok (.getfield 7, 3) := by decide +kernel
theorem dX6_isPlace_60 : decode cX6_isPlace 60 = .ok (.iconst 1, 1) := by decide +kernel
theorem dX6_isPlace_61 : decode cX6_isPlace 61 = .ok (.iaload, 1) := by decide +kernel
theorem dX6_isPlace_62 : decode cX6_isPlace 62 = .ok (.aload_n 0, 1) := by decide +kernel
theorem dX6_isPlace_63 : decode cX6_isPlace 63 = .ok (.iload_n 1, 1) := by decide +kernel
theorem dX6_isPlace_64 : decode cX6_isPlace 64 = .ok (.iload_n 2, 1) := by decide +kernel
theorem dX6_isPlace_65 : decode cX6_isPlace 65 = .ok (.iconst 1, 1) := by decide +kernel
theorem dX6_isPlace_66 : decode cX6_isPlace 66 = .ok (.invokevirtual 121, 3) := by decide +kernel
theorem dX6_isPlace_69 : decode cX6_isPlace 69 = .ok (.isub, 1) := by decide +kernel
theorem dX6_isPlace_70 : decode cX6_isPlace 70 = .ok (.if_icmp .gt 31, 3) := by decide +kernel
theorem dX6_isPlace_73 : decode cX6_isPlace 73 = .ok (.iload 5, 2) := by decide +kernel
theorem dX6_isPlace_75 : decode cX6_isPlace 75 = .ok (.ifCond .lt 26, 3) := by decide +kernel
theorem dX6_isPlace_78 : decode cX6_isPlace 78 = .ok (.iload 5, 2) := by decide +kernel
theorem dX6_isPlace_80 : decode cX6_isPlace 80 = .ok (.aload_n 0, 1) := by decide +kernel
theorem dX6_isPlace_81 : decode cX6_isPlace 81 = .ok (.getfield 7, 3) := by decide +kernel
theorem dX6_isPlace_84 : decode cX6_isPlace 84 = .ok (.iconst 2, 1) := by decide +kernel
theorem dX6_isPlace_85 : decode cX6_isPlace 85 = .ok (.iaload, 1) := by decide +kernel
theorem dX6_isPlace_86 : decode cX6_isPlace 86 = .ok (.aload_n 0, 1) := by decide +kernel
theorem dX6_isPlace_87 : decode cX6_isPlace 87 = .ok (.iload_n 1, 1) := by decide +kernel
theorem dX6_isPlace_88 : decode cX6_isPlace 88 = .ok (.iload_n 2, 1) := by decide +kernel
theorem dX6_isPlace_89 : decode cX6_isPlace 89 = .ok (.iconst 2, 1) := by decide +kernel
theorem dX6_isPlace_90 : decode cX6_isPlace 90 = .ok (.invokevirtual 121, 3) := by decide +kernel
theorem dX6_isPlace_93 : decode cX6_isPlace 93 = .ok (.isub, 1) := by decide +kernel
theorem dX6_isPlace_94 : decode cX6_isPlace 94 = .ok (.if_icmp .gt 7, 3) := by decide +kernel
theorem dX6_isPlace_97 : decode cX6_isPlace 97 = .ok (.iconst 1, 1) := by decide +kernel
theorem dX6_isPlace_98 : decode cX6_isPlace 98 = .ok (.goto 4, 3) := by decide +kernel
theorem dX6_isPlace_101 : decode cX6_isPlace 101 = .ok (.iconst 0, 1) := by decide +kernel
theorem dX6_isPlace_102 : decode cX6_isPlace 102 = .ok (.ireturn, 1) := by decide +kernel
theorem dX6_lay_0 : decode cX6_lay 0 = .ok (.aload_n 0, 1) := by decide +kernel
theorem dX6_lay_1 : decode cX6_lay 1 = .ok (.iload_n 1, 1) := by decide +kernel
theorem dX6_lay_2 : decode cX6_lay 2 = .ok (.iload_n 2, 1) := by decide +kernel
theorem dX6_lay_3 : decode cX6_lay 3 = .ok (.iload_n 3, 1) := by decide +kernel
theorem dX6_lay_4 : decode cX6_lay 4 = .ok (.iload 4, 2) := by decide +kernel
theorem dX6_lay_6 : decode cX6_lay 6 = .ok (.iload 5, 2) := by decide +kernel
theorem dX6_lay_8 : decode cX6_lay 8 = .ok (.invokevirtual 154, 3) := by decide +kernel
theorem dX6_lay_11 : decode cX6_lay 11 = .ok (.ifCond .ne 5, 3) := by decide +kernel
theorem dX6_lay_14 : decode cX6_lay 14 = .ok (.iconst (-1), 1) := by decide +kernel
theorem dX6_lay_15 : decode cX6_lay 15 = .ok (.ireturn, 1) := by decide +kernel
theorem dX6_lay_16 : decode cX6_lay 16 = .ok (.aload_n 0, 1) := by decide +kernel
theorem dX6_lay_17 : decode cX6_lay 17 = .ok (.getfield 22, 3) := by decide +kernel
theorem dX6_lay_20 : decode cX6_lay 20 = .ok (.iload_n 1, 1) := by decide +kernel
theorem dX6_lay_21 : decode cX6_lay 21 = .ok (.iload_n 2, 1) := by decide +kernel
theorem dX6_lay_22 : decode cX6_lay 22 = .ok (.iconst 1, 1) := by decide +kernel
theorem dX6_lay_23 : decode cX6_lay 23 = .ok (.iadd, 1) := by decide +kernel
theorem dX6_lay_24 : decode cX6_lay 24 = .ok (.iastore, 1) := by decide +kernel
theorem dX6_lay_25 : decode cX6_lay 25 = .ok (.aload_n 0, 1) := by decide +kernel
theorem dX6_lay_26 : decode cX6_lay 26 = .ok (.getfield 25, 3) := by decide +kernel
theorem dX6_lay_29 : decode cX6_lay 29 = .ok (.iconst 3, 1) := by decide +kernel
theorem dX6_lay_30 : decode cX6_lay 30 = .ok (.iload_n 1, 1) := by decide +kernel
theorem dX6_lay_31 : decode cX6_lay 31 = .ok (.imul, 1) := by decide +kernel
theorem dX6_lay_32 : decode cX6_lay 32 = .ok (.iload_n 3, 1) := by decide +kernel
theorem dX6_lay_33 : decode cX6_lay 33 = .ok (.iastore, 1) := by decide +kernel
theorem dX6_lay_34 : decode cX6_lay 34 = .ok (.aload_n 0, 1) := by decide +kernel
theorem dX6_lay_35 : decode cX6_lay 35 = .ok (.getfield 25, 3) := by decide +kernel
theorem dX6_lay_38 : decode cX6_lay 38 = .ok (.iconst 3, 1) := by decide +kernel
theorem dX6_lay_39 : decode cX6_lay 39 = .ok (.iload_n 1, 1) := by decide +kernel
theorem dX6_lay_40 : decode cX6_lay 40 = .ok (.imul, 1) := by decide +kernel
theorem dX6_lay_41 : decode cX6_lay 41 = .ok (.iconst 1, 1) := by decide +kernel
theorem dX6_lay_42 : decode cX6_lay 42 = .ok (.iadd, 1) := by decide +kernel
theorem dX6_lay_43 : decode cX6_lay 43 = .ok (.iload 4, 2) := by decide +kernel
theorem dX6_lay_45 : decode cX6_lay 45 = .ok (.iastore, 1) := by decide +kernel
theorem dX6_lay_46 : decode cX6_lay 46 = .ok (.aload_n 0, 1) := by decide +kernel
theorem dX6_lay_47 : decode cX6_lay 47 = .ok (.getfield 25, 3) := by decide +kernel
theorem dX6_lay_50 : decode cX6_lay 50 = .ok (.iconst 3, 1) := by decide +kernel
theorem dX6_lay_51 : decode cX6_lay 51 = .ok (.iload_n 1, 1) := by decide +kernel
theorem dX6_lay_52 : decode cX6_lay 52 = .ok (.imul, 1) := by decide +kernel
theorem dX6_lay_53 : decode cX6_lay 53 = .ok (.iconst 2, 1) := by decide +kernel
theorem dX6_lay_54 : decode cX6_lay 54 = .ok (.iadd, 1) := by decide +kernel
theorem dX6_lay_55 : decode cX6_lay 55 = .ok (.iload 5, 2) := by decide +kernel
theorem dX6_lay_57 : decode cX6_lay 57 = .ok (.iastore, 1) := by decide +kernel
theorem dX6_lay_58 : decode cX6_lay 58 = .ok (.aload_n 0, 1) := by decide +kernel
theorem dX6_lay_59 : decode cX6_lay 59 = .ok (.invokevirtual 158, 3) := by decide +kernel
theorem dX6_lay_62 : decode cX6_lay 62 = .ok (.ireturn, 1) := by decide +kernel
theorem dX6_lift_0 : decode cX6_lift 0 = .ok (.aload_n 0, 1) := by decide +kernel
theorem dX6_lift_1 : decode cX6_lift 1 = .ok (.iload_n 1, 1) := by decide +kernel
theorem dX6_lift_2 : decode cX6_lift 2 = .ok (.invokevirtual 151, 3) := by decide +kernel
theorem dX6_lift_5 : decode cX6_lift 5 = .ok (.ifCond .ne 5, 3) := by decide +kernel
theorem dX6_lift_8 : decode cX6_lift 8 = .ok (.iconst (-1), 1) := by decide +kernel
theorem dX6_lift_9 : decode cX6_lift 9 = .ok (.ireturn, 1) := by decide +kernel
theorem dX6_lift_10 : decode cX6_lift 10 = .ok (.aload_n 0, 1) := by decide +kernel
theorem dX6_lift_11 : decode cX6_lift 11 = .ok (.getfield 22, 3) := by decide +kernel
theorem dX6_lift_14 : decode cX6_lift 14 = .ok (.iload_n 1, 1) := by decide +kernel
theorem dX6_lift_15 : decode cX6_lift 15 = .ok (.iaload, 1) := by decide +kernel
theorem dX6_lift_16 : decode cX6_lift 16 = .ok (.ifCond .ne 6, 3) := by decide +kernel
theorem dX6_lift_19 : decode cX6_lift 19 = .ok (.bipush (-2), 2) := by decide +kernel
theorem dX6_lift_21 : decode cX6_lift 21 = .ok (.ireturn, 1) := by decide +kernel
theorem dX6_lift_22 : decode cX6_lift 22 = .ok (.aload_n 0, 1) := by decide +kernel
theorem dX6_lift_23 : decode cX6_lift 23 = .ok (.getfield 22, 3) := by decide +kernel
theorem dX6_lift_26 : decode cX6_lift 26 = .ok (.iload_n 1, 1) := by decide +kernel
theorem dX6_lift_27 : decode cX6_lift 27 = .ok (.iconst 0, 1) := by decide +kernel
theorem dX6_lift_28 : decode cX6_lift 28 = .ok (.iastore, 1) := by decide +kernel
theorem dX6_lift_29 : decode cX6_lift 29 = .ok (.iconst 0, 1) := by decide +kernel
theorem dX6_lift_30 : decode cX6_lift 30 = .ok (.ireturn, 1) := by decide +kernel
theorem dX6_begin_0 : decode cX6_begin 0 = .ok (.aload_n 0, 1) := by decide +kernel
theorem dX6_begin_1 : decode cX6_begin 1 = .ok (.getfield 25, 3) := by decide +kernel
theorem dX6_begin_4 : decode cX6_begin 4 = .ok (.iconst 3, 1) := by decide +kernel
theorem dX6_begin_5 : decode cX6_begin 5 = .ok (.iload_n 1, 1) := by decide +kernel
theorem dX6_begin_6 : decode cX6_begin 6 = .ok (.imul, 1) := by decide +kernel
theorem dX6_begin_7 : decode cX6_begin 7 = .ok (.iload_n 2, 1) := by decide +kernel
theorem dX6_begin_8 : decode cX6_begin 8 = .ok (.iadd, 1) := by decide +kernel
theorem dX6_begin_9 : decode cX6_begin 9 = .ok (.iaload, 1) := by decide +kernel
theorem dX6_begin_10 : decode cX6_begin 10 = .ok (.ireturn, 1) := by decide +kernel
theorem dX6_end_0 : decode cX6_end 0 = .ok (.aload_n 0, 1) := by decide +kernel
theorem dX6_end_1 : decode cX6_end 1 = .ok (.getfield 25, 3) := by decide +kernel
theorem dX6_end_4 : decode cX6_end 4 = .ok (.iconst 3, 1) := by decide +kernel
theorem dX6_end_5 : decode cX6_end 5 = .ok (.iload_n 1, 1) := by decide +kernel
theorem dX6_end_6 : decode cX6_end 6 = .ok (.imul, 1) := by decide +kernel
theorem dX6_end_7 : decode cX6_end 7 = .ok (.iload_n 2, 1) := by decide +kernel
theorem dX6_end_8 : decode cX6_end 8 = .ok (.iadd, 1) := by decide +kernel
theorem dX6_end_9 : decode cX6_end 9 = .ok (.iaload, 1) := by decide +kernel
theorem dX6_end_10 : decode cX6_end 10 = .ok (.aload_n 0, 1) := by decide +kernel
theorem dX6_end_11 : decode cX6_end 11 = .ok (.iload_n 1, 1) := by decide +kernel
theorem dX6_end_12 : decode cX6_end 12 = .ok (.aload_n 0, 1) := by decide +kernel
theorem dX6_end_13 : decode cX6_end 13 = .ok (.getfield 22, 3) := by decide +kernel
theorem dX6_end_16 : decode cX6_end 16 = .ok (.iload_n 1, 1) := by decide +kernel
theorem dX6_end_17 : decode cX6_end 17 = .ok (.iaload, 1) := by decide +kernel
theorem dX6_end_18 : decode cX6_end 18 = .ok (.iconst 1, 1) := by decide +kernel
theorem dX6_end_19 : decode cX6_end 19 = .ok (.isub, 1) := by decide +kernel
theorem dX6_end_20 : decode cX6_end 20 = .ok (.iload_n 2, 1) := by decide +kernel
theorem dX6_end_21 : decode cX6_end 21 = .ok (.invokevirtual 121, 3) := by decide +kernel
theorem dX6_end_24 : decode cX6_end 24 = .ok (.iadd, 1) := by decide +kernel
theorem dX6_end_25 : decode cX6_end 25 = .ok (.ireturn, 1) := by decide +kernel
theorem dX6_place_0 : decode cX6_place 0 = .ok (.aload_n 0, 1) := by decide +kernel
theorem dX6_place_1 : decode cX6_place 1 = .ok (.iload_n 1, 1) := by decide +kernel
theorem dX6_place_2 : decode cX6_place 2 = .ok (.invokevirtual 151, 3) := by decide +kernel
theorem dX6_place_5 : decode cX6_place 5 = .ok (.ifCond .eq 13, 3) := by decide +kernel
theorem dX6_place_8 : decode cX6_place 8 = .ok (.iload_n 2, 1) := by decide +kernel
theorem dX6_place_9 : decode cX6_place 9 = .ok (.ifCond .lt 9, 3) := by decide +kernel
theorem dX6_place_12 : decode cX6_place 12 = .ok (.iload_n 2, 1) := by decide +kernel
theorem dX6_place_13 : decode cX6_place 13 = .ok (.bipush 6, 2) := by decide +kernel
theorem dX6_place_15 : decode cX6_place 15 = .ok (.if_icmp .le 5, 3) := by decide +kernel
theorem dX6_place_18 : decode cX6_place 18 = .ok (.iconst (-1), 1) := by decide +kernel
theorem dX6_place_19 : decode cX6_place 19 = .ok (.ireturn, 1) := by decide +kernel
theorem dX6_place_20 : decode cX6_place 20 = .ok (.aload_n 0, 1) := by decide +kernel
theorem dX6_place_21 : decode cX6_place 21 = .ok (.getfield 22, 3) := by decide +kernel
theorem dX6_place_24 : decode cX6_place 24 = .ok (.iload_n 1, 1) := by decide +kernel
theorem dX6_place_25 : decode cX6_place 25 = .ok (.iaload, 1) := by decide +kernel
theorem dX6_place_26 : decode cX6_place 26 = .ok (.ifCond .ne 6, 3) := by decide +kernel
theorem dX6_place_29 : decode cX6_place 29 = .ok (.bipush (-9), 2) := by decide +kernel
theorem dX6_place_31 : decode cX6_place 31 = .ok (.ireturn, 1) := by decide +kernel
theorem dX6_place_32 : decode cX6_place 32 = .ok (.iload_n 2, 1) := by decide +kernel
theorem dX6_place_33 : decode cX6_place 33 = .ok (.iconst 3, 1) := by decide +kernel
theorem dX6_place_34 : decode cX6_place 34 = .ok (.if_icmp .ge 12, 3) := by decide +kernel
theorem dX6_place_37 : decode cX6_place 37 = .ok (.aload_n 0, 1) := by decide +kernel
theorem dX6_place_38 : decode cX6_place 38 = .ok (.iload_n 1, 1) := by decide +kernel
theorem dX6_place_39 : decode cX6_place 39 = .ok (.iload_n 2, 1) := by decide +kernel
theorem dX6_place_40 : decode cX6_place 40 = .ok (.invokevirtual 162, 3) := by decide +kernel
theorem dX6_place_43 : decode cX6_place 43 = .ok (.goto 36, 3) := by decide +kernel
theorem dX6_place_46 : decode cX6_place 46 = .ok (.iload_n 2, 1) := by decide +kernel
theorem dX6_place_47 : decode cX6_place 47 = .ok (.iconst 3, 1) := by decide +kernel
theorem dX6_place_48 : decode cX6_place 48 = .ok (.if_icmp .ne 14, 3) := by decide +kernel
theorem dX6_place_51 : decode cX6_place 51 = .ok (.aload_n 0, 1) := by decide +kernel
theorem dX6_place_52 : decode cX6_place 52 = .ok (.getfield 22, 3) := by decide +kernel
theorem dX6_place_55 : decode cX6_place 55 = .ok (.iload_n 1, 1) := by decide +kernel
theorem dX6_place_56 : decode cX6_place 56 = .ok (.iaload, 1) := by decide +kernel
theorem dX6_place_57 : decode cX6_place 57 = .ok (.iconst 1, 1) := by decide +kernel
theorem dX6_place_58 : decode cX6_place 58 = .ok (.isub, 1) := by decide +kernel
theorem dX6_place_59 : decode cX6_place 59 = .ok (.goto 20, 3) := by decide +kernel
theorem dX6_place_62 : decode cX6_place 62 = .ok (.aload_n 0, 1) := by decide +kernel
theorem dX6_place_63 : decode cX6_place 63 = .ok (.iload_n 1, 1) := by decide +kernel
theorem dX6_place_64 : decode cX6_place 64 = .ok (.iload_n 2, 1) := by decide +kernel
theorem dX6_place_65 : decode cX6_place 65 = .ok (.iconst 4, 1) := by decide +kernel
theorem dX6_place_66 : decode cX6_place 66 = .ok (.isub, 1) := by decide +kernel
theorem dX6_place_67 : decode cX6_place 67 = .ok (.invokevirtual 165, 3) := by decide +kernel
theorem dX6_place_70 : decode cX6_place 70 = .ok (.aload_n 0, 1) := by decide +kernel
theorem dX6_place_71 : decode cX6_place 71 = .ok (.iload_n 1, 1) := by decide +kernel
theorem dX6_place_72 : decode cX6_place 72 = .ok (.iload_n 2, 1) := by decide +kernel
theorem dX6_place_73 : decode cX6_place 73 = .ok (.iconst 4, 1) := by decide +kernel
theorem dX6_place_74 : decode cX6_place 74 = .ok (.isub, 1) := by decide +kernel
theorem dX6_place_75 : decode cX6_place 75 = .ok (.invokevirtual 162, 3) := by decide +kernel
theorem dX6_place_78 : decode cX6_place 78 = .ok (.isub, 1) := by decide +kernel
theorem dX6_place_79 : decode cX6_place 79 = .ok (.ireturn, 1) := by decide +kernel
theorem dX6_apart_0 : decode cX6_apart 0 = .ok (.iconst 0, 1) := by decide +kernel
theorem dX6_apart_1 : decode cX6_apart 1 = .ok (.istore_n 3, 1) := by decide +kernel
theorem dX6_apart_2 : decode cX6_apart 2 = .ok (.iload_n 3, 1) := by decide +kernel
theorem dX6_apart_3 : decode cX6_apart 3 = .ok (.iconst 3, 1) := by decide +kernel
theorem dX6_apart_4 : decode cX6_apart 4 = .ok (.if_icmp .ge 49, 3) := by decide +kernel
theorem dX6_apart_7 : decode cX6_apart 7 = .ok (.aload_n 0, 1) := by decide +kernel
theorem dX6_apart_8 : decode cX6_apart 8 = .ok (.iload_n 1, 1) := by decide +kernel
theorem dX6_apart_9 : decode cX6_apart 9 = .ok (.iload_n 3, 1) := by decide +kernel
theorem dX6_apart_10 : decode cX6_apart 10 = .ok (.invokevirtual 165, 3) := by decide +kernel
theorem dX6_apart_13 : decode cX6_apart 13 = .ok (.aload_n 0, 1) := by decide +kernel
theorem dX6_apart_14 : decode cX6_apart 14 = .ok (.iload_n 2, 1) := by decide +kernel
theorem dX6_apart_15 : decode cX6_apart 15 = .ok (.iload_n 3, 1) := by decide +kernel
theorem dX6_apart_16 : decode cX6_apart 16 = .ok (.invokevirtual 162, 3) := by decide +kernel
theorem dX6_apart_19 : decode cX6_apart 19 = .ok (.if_icmp .gt 7, 3) := by decide +kernel
theorem dX6_apart_22 : decode cX6_apart 22 = .ok (.iconst 2, 1) := by decide +kernel
theorem dX6_apart_23 : decode cX6_apart 23 = .ok (.iload_n 3, 1) := by decide +kernel
theorem dX6_apart_24 : decode cX6_apart 24 = .ok (.imul, 1) := by decide +kernel
theorem dX6_apart_25 : decode cX6_apart 25 = .ok (.ireturn, 1) := by decide +kernel
theorem dX6_apart_26 : decode cX6_apart 26 = .ok (.aload_n 0, 1) := by decide +kernel
theorem dX6_apart_27 : decode cX6_apart 27 = .ok (.iload_n 2, 1) := by decide +kernel
theorem dX6_apart_28 : decode cX6_apart 28 = .ok (.iload_n 3, 1) := by decide +kernel
theorem dX6_apart_29 : decode cX6_apart 29 = .ok (.invokevirtual 165, 3) := by decide +kernel
theorem dX6_apart_32 : decode cX6_apart 32 = .ok (.aload_n 0, 1) := by decide +kernel
theorem dX6_apart_33 : decode cX6_apart 33 = .ok (.iload_n 1, 1) := by decide +kernel
theorem dX6_apart_34 : decode cX6_apart 34 = .ok (.iload_n 3, 1) := by decide +kernel
theorem dX6_apart_35 : decode cX6_apart 35 = .ok (.invokevirtual 162, 3) := by decide +kernel
theorem dX6_apart_38 : decode cX6_apart 38 = .ok (.if_icmp .gt 9, 3) := by decide +kernel
theorem dX6_apart_41 : decode cX6_apart 41 = .ok (.iconst 2, 1) := by decide +kernel
theorem dX6_apart_42 : decode cX6_apart 42 = .ok (.iload_n 3, 1) := by decide +kernel
theorem dX6_apart_43 : decode cX6_apart 43 = .ok (.imul, 1) := by decide +kernel
theorem dX6_apart_44 : decode cX6_apart 44 = .ok (.iconst 1, 1) := by decide +kernel
theorem dX6_apart_45 : decode cX6_apart 45 = .ok (.iadd, 1) := by decide +kernel
theorem dX6_apart_46 : decode cX6_apart 46 = .ok (.ireturn, 1) := by decide +kernel
theorem dX6_apart_47 : decode cX6_apart 47 = .ok (.iinc 3 1, 3) := by decide +kernel
theorem dX6_apart_50 : decode cX6_apart 50 = .ok (.goto (-48), 3) := by decide +kernel
theorem dX6_apart_53 : decode cX6_apart 53 = .ok (.bipush (-9), 2) := by decide +kernel
theorem dX6_apart_55 : decode cX6_apart 55 = .ok (.ireturn, 1) := by decide +kernel
theorem dX6_overlaps_0 : decode cX6_overlaps 0 = .ok (.iconst 0, 1) := by decide +kernel
theorem dX6_overlaps_1 : decode cX6_overlaps 1 = .ok (.istore_n 1, 1) := by decide +kernel
theorem dX6_overlaps_2 : decode cX6_overlaps 2 = .ok (.iconst 0, 1) := by decide +kernel
theorem dX6_overlaps_3 : decode cX6_overlaps 3 = .ok (.istore_n 2, 1) := by decide +kernel
theorem dX6_overlaps_4 : decode cX6_overlaps 4 = .ok (.iload_n 2, 1) := by decide +kernel
theorem dX6_overlaps_5 : decode cX6_overlaps 5 = .ok (.aload_n 0, 1) := by decide +kernel
theorem dX6_overlaps_6 : decode cX6_overlaps 6 = .ok (.getfield 81, 3) := by decide +kernel
theorem dX6_overlaps_9 : decode cX6_overlaps 9 = .ok (.if_icmp .ge 59, 3) := by decide +kernel
theorem dX6_overlaps_12 : decode cX6_overlaps 12 = .ok (.iconst 0, 1) := by decide +kernel
theorem dX6_overlaps_13 : decode cX6_overlaps 13 = .ok (.istore_n 3, 1) := by decide +kernel
theorem dX6_overlaps_14 : decode cX6_overlaps 14 = .ok (.iload_n 3, 1) := by decide +kernel
theorem dX6_overlaps_15 : decode cX6_overlaps 15 = .ok (.iload_n 2, 1) := by decide +kernel
theorem dX6_overlaps_16 : decode cX6_overlaps 16 = .ok (.if_icmp .ge 46, 3) := by decide +kernel
theorem dX6_overlaps_19 : decode cX6_overlaps 19 = .ok (.iload_n 1, 1) := by decide +kernel
theorem dX6_overlaps_20 : decode cX6_overlaps 20 = .ok (.aload_n 0, 1) := by decide +kernel
theorem dX6_overlaps_21 : decode cX6_overlaps 21 = .ok (.getfield 22, 3) := by decide +kernel
theorem dX6_overlaps_24 : decode cX6_overlaps 24 = .ok (.iload_n 2, 1) := by decide +kernel
theorem dX6_overlaps_25 : decode cX6_overlaps 25 = .ok (.iaload, 1) := by decide +kernel
theorem dX6_overlaps_26 : decode cX6_overlaps 26 = .ok (.ifCond .le 27, 3) := by decide +kernel
theorem dX6_overlaps_29 : decode cX6_overlaps 29 = .ok (.aload_n 0, 1) := by decide +kernel
theorem dX6_overlaps_30 : decode cX6_overlaps 30 = .ok (.getfield 22, 3) := by decide +kernel
theorem dX6_overlaps_33 : decode cX6_overlaps 33 = .ok (.iload_n 3, 1) := by decide +kernel
theorem dX6_overlaps_34 : decode cX6_overlaps 34 = .ok (.iaload, 1) := by decide +kernel
theorem dX6_overlaps_35 : decode cX6_overlaps 35 = .ok (.ifCond .le 18, 3) := by decide +kernel
theorem dX6_overlaps_38 : decode cX6_overlaps 38 = .ok (.aload_n 0, 1) := by decide +kernel
theorem dX6_overlaps_39 : decode cX6_overlaps 39 = .ok (.iload_n 2, 1) := by decide +kernel
theorem dX6_overlaps_40 : decode cX6_overlaps 40 = .ok (.iload_n 3, 1) := by decide +kernel
theorem dX6_overlaps_41 : decode cX6_overlaps 41 = .ok (.invokevirtual 168, 3) := by decide +kernel
theorem dX6_overlaps_44 : decode cX6_overlaps 44 = .ok (.bipush (-9), 2) := by decide +kernel
theorem dX6_overlaps_46 : decode cX6_overlaps 46 = .ok (.if_icmp .ne 7, 3) := by decide +kernel
theorem dX6_overlaps_49 : decode cX6_overlaps 49 = .ok (.iconst 1, 1) := by decide +kernel
theorem dX6_overlaps_50 : decode cX6_overlaps 50 = .ok (.goto 4, 3) := by decide +kernel
theorem dX6_overlaps_53 : decode cX6_overlaps 53 = .ok (.iconst 0, 1) := by decide +kernel
theorem dX6_overlaps_54 : decode cX6_overlaps 54 = .ok (.iadd, 1) := by decide +kernel
theorem dX6_overlaps_55 : decode cX6_overlaps 55 = .ok (.istore_n 1, 1) := by decide +kernel
theorem dX6_overlaps_56 : decode cX6_overlaps 56 = .ok (.iinc 3 1, 3) := by decide +kernel
theorem dX6_overlaps_59 : decode cX6_overlaps 59 = .ok (.goto (-45), 3) := by decide +kernel
theorem dX6_overlaps_62 : decode cX6_overlaps 62 = .ok (.iinc 2 1, 3) := by decide +kernel
theorem dX6_overlaps_65 : decode cX6_overlaps 65 = .ok (.goto (-61), 3) := by decide +kernel
theorem dX6_overlaps_68 : decode cX6_overlaps 68 = .ok (.iload_n 1, 1) := by decide +kernel
theorem dX6_overlaps_69 : decode cX6_overlaps 69 = .ok (.ireturn, 1) := by decide +kernel
theorem dX6_relative_0 : decode cX6_relative 0 = .ok (.aload_n 0, 1) := by decide +kernel
theorem dX6_relative_1 : decode cX6_relative 1 = .ok (.iload_n 1, 1) := by decide +kernel
theorem dX6_relative_2 : decode cX6_relative 2 = .ok (.invokevirtual 151, 3) := by decide +kernel
theorem dX6_relative_5 : decode cX6_relative 5 = .ok (.ifCond .eq 16, 3) := by decide +kernel
theorem dX6_relative_8 : decode cX6_relative 8 = .ok (.aload_n 0, 1) := by decide +kernel
theorem dX6_relative_9 : decode cX6_relative 9 = .ok (.iload_n 2, 1) := by decide +kernel
theorem dX6_relative_10 : decode cX6_relative 10 = .ok (.invokevirtual 151, 3) := by decide +kernel
theorem dX6_relative_13 : decode cX6_relative 13 = .ok (.ifCond .eq 8, 3) := by decide +kernel
theorem dX6_relative_16 : decode cX6_relative 16 = .ok (.iload_n 1, 1) := by decide +kernel
theorem dX6_relative_17 : decode cX6_relative 17 = .ok (.iload_n 2, 1) := by decide +kernel
theorem dX6_relative_18 : decode cX6_relative 18 = .ok (.if_icmp .ne 5, 3) := by decide +kernel
theorem dX6_relative_21 : decode cX6_relative 21 = .ok (.iconst (-1), 1) := by decide +kernel
theorem dX6_relative_22 : decode cX6_relative 22 = .ok (.ireturn, 1) := by decide +kernel
theorem dX6_relative_23 : decode cX6_relative 23 = .ok (.aload_n 0, 1) := by decide +kernel
theorem dX6_relative_24 : decode cX6_relative 24 = .ok (.getfield 22, 3) := by decide +kernel
theorem dX6_relative_27 : decode cX6_relative 27 = .ok (.iload_n 1, 1) := by decide +kernel
theorem dX6_relative_28 : decode cX6_relative 28 = .ok (.iaload, 1) := by decide +kernel
theorem dX6_relative_29 : decode cX6_relative 29 = .ok (.ifCond .eq 12, 3) := by decide +kernel
theorem dX6_relative_32 : decode cX6_relative 32 = .ok (.aload_n 0, 1) := by decide +kernel
theorem dX6_relative_33 : decode cX6_relative 33 = .ok (.getfield 22, 3) := by decide +kernel
theorem dX6_relative_36 : decode cX6_relative 36 = .ok (.iload_n 2, 1) := by decide +kernel
theorem dX6_relative_37 : decode cX6_relative 37 = .ok (.iaload, 1) := by decide +kernel
theorem dX6_relative_38 : decode cX6_relative 38 = .ok (.ifCond .ne 8, 3) := by decide +kernel
theorem dX6_relative_41 : decode cX6_relative 41 = .ok (.bipush (-2), 2) := by decide +kernel
theorem dX6_relative_43 : decode cX6_relative 43 = .ok (.goto 9, 3) := by decide +kernel
theorem dX6_relative_46 : decode cX6_relative 46 = .ok (.aload_n 0, 1) := by decide +kernel
theorem dX6_relative_47 : decode cX6_relative 47 = .ok (.iload_n 1, 1) := by decide +kernel
theorem dX6_relative_48 : decode cX6_relative 48 = .ok (.iload_n 2, 1) := by decide +kernel
theorem dX6_relative_49 : decode cX6_relative 49 = .ok (.invokevirtual 168, 3) := by decide +kernel
theorem dX6_relative_52 : decode cX6_relative 52 = .ok (.ireturn, 1) := by decide +kernel
theorem dX6_common_0 : decode cX6_common 0 = .ok (.aload_n 0, 1) := by decide +kernel
theorem dX6_common_1 : decode cX6_common 1 = .ok (.iload_n 1, 1) := by decide +kernel
theorem dX6_common_2 : decode cX6_common 2 = .ok (.iload_n 3, 1) := by decide +kernel
theorem dX6_common_3 : decode cX6_common 3 = .ok (.invokevirtual 162, 3) := by decide +kernel
theorem dX6_common_6 : decode cX6_common 6 = .ok (.aload_n 0, 1) := by decide +kernel
theorem dX6_common_7 : decode cX6_common 7 = .ok (.iload_n 2, 1) := by decide +kernel
theorem dX6_common_8 : decode cX6_common 8 = .ok (.iload_n 3, 1) := by decide +kernel
theorem dX6_common_9 : decode cX6_common 9 = .ok (.invokevirtual 162, 3) := by decide +kernel
theorem dX6_common_12 : decode cX6_common 12 = .ok (.if_icmp .le 12, 3) := by decide +kernel
theorem dX6_common_15 : decode cX6_common 15 = .ok (.aload_n 0, 1) := by decide +kernel
theorem dX6_common_16 : decode cX6_common 16 = .ok (.iload_n 1, 1) := by decide +kernel
theorem dX6_common_17 : decode cX6_common 17 = .ok (.iload_n 3, 1) := by decide +kernel
theorem dX6_common_18 : decode cX6_common 18 = .ok (.invokevirtual 162, 3) := by decide +kernel
theorem dX6_common_21 : decode cX6_common 21 = .ok (.goto 9, 3) := by decide +kernel
theorem dX6_common_24 : decode cX6_common 24 = .ok (.aload_n 0, 1) := by decide +kernel
theorem dX6_common_25 : decode cX6_common 25 = .ok (.iload_n 2, 1) := by decide +kernel
theorem dX6_common_26 : decode cX6_common 26 = .ok (.iload_n 3, 1) := by decide +kernel
theorem dX6_common_27 : decode cX6_common 27 = .ok (.invokevirtual 162, 3) := by decide +kernel
theorem dX6_common_30 : decode cX6_common 30 = .ok (.istore 4, 2) := by decide +kernel
theorem dX6_common_32 : decode cX6_common 32 = .ok (.aload_n 0, 1) := by decide +kernel
theorem dX6_common_33 : decode cX6_common 33 = .ok (.iload_n 1, 1) := by decide +kernel
theorem dX6_common_34 : decode cX6_common 34 = .ok (.iload_n 3, 1) := by decide +kernel
theorem dX6_common_35 : decode cX6_common 35 = .ok (.invokevirtual 165, 3) := by decide +kernel
theorem dX6_common_38 : decode cX6_common 38 = .ok (.aload_n 0, 1) := by decide +kernel
theorem dX6_common_39 : decode cX6_common 39 = .ok (.iload_n 2, 1) := by decide +kernel
theorem dX6_common_40 : decode cX6_common 40 = .ok (.iload_n 3, 1) := by decide +kernel
theorem dX6_common_41 : decode cX6_common 41 = .ok (.invokevirtual 165, 3) := by decide +kernel
theorem dX6_common_44 : decode cX6_common 44 = .ok (.if_icmp .ge 12, 3) := by decide +kernel
theorem dX6_common_47 : decode cX6_common 47 = .ok (.aload_n 0, 1) := by decide +kernel
theorem dX6_common_48 : decode cX6_common 48 = .ok (.iload_n 1, 1) := by decide +kernel
theorem dX6_common_49 : decode cX6_common 49 = .ok (.iload_n 3, 1) := by decide +kernel
theorem dX6_common_50 : decode cX6_common 50 = .ok (.invokevirtual 165, 3) := by decide +kernel
theorem dX6_common_53 : decode cX6_common 53 = .ok (.goto 9, 3) := by decide +kernel
theorem dX6_common_56 : decode cX6_common 56 = .ok (.aload_n 0, 1) := by decide +kernel
theorem dX6_common_57 : decode cX6_common 57 = .ok (.iload_n 2, 1) := by decide +kernel
theorem dX6_common_58 : decode cX6_common 58 = .ok (.iload_n 3, 1) := by decide +kernel
theorem dX6_common_59 : decode cX6_common 59 = .ok (.invokevirtual 165, 3) := by decide +kernel
theorem dX6_common_62 : decode cX6_common 62 = .ok (.istore 5, 2) := by decide +kernel
theorem dX6_common_64 : decode cX6_common 64 = .ok (.iload 5, 2) := by decide +kernel
theorem dX6_common_66 : decode cX6_common 66 = .ok (.iload 4, 2) := by decide +kernel
theorem dX6_common_68 : decode cX6_common 68 = .ok (.if_icmp .le 11, 3) := by decide +kernel
theorem dX6_common_71 : decode cX6_common 71 = .ok (.iload 5, 2) := by decide +kernel
theorem dX6_common_73 : decode cX6_common 73 = .ok (.iload 4, 2) := by decide +kernel
theorem dX6_common_75 : decode cX6_common 75 = .ok (.isub, 1) := by decide +kernel
theorem dX6_common_76 : decode cX6_common 76 = .ok (.goto 4, 3) := by decide +kernel
theorem dX6_common_79 : decode cX6_common 79 = .ok (.iconst 0, 1) := by decide +kernel
theorem dX6_common_80 : decode cX6_common 80 = .ok (.ireturn, 1) := by decide +kernel
theorem dX6_support_0 : decode cX6_support 0 = .ok (.aload_n 0, 1) := by decide +kernel
theorem dX6_support_1 : decode cX6_support 1 = .ok (.iload_n 1, 1) := by decide +kernel
theorem dX6_support_2 : decode cX6_support 2 = .ok (.invokevirtual 151, 3) := by decide +kernel
theorem dX6_support_5 : decode cX6_support 5 = .ok (.ifCond .ne 5, 3) := by decide +kernel
theorem dX6_support_8 : decode cX6_support 8 = .ok (.iconst (-1), 1) := by decide +kernel
theorem dX6_support_9 : decode cX6_support 9 = .ok (.ireturn, 1) := by decide +kernel
theorem dX6_support_10 : decode cX6_support 10 = .ok (.aload_n 0, 1) := by decide +kernel
theorem dX6_support_11 : decode cX6_support 11 = .ok (.getfield 22, 3) := by decide +kernel
theorem dX6_support_14 : decode cX6_support 14 = .ok (.iload_n 1, 1) := by decide +kernel
theorem dX6_support_15 : decode cX6_support 15 = .ok (.iaload, 1) := by decide +kernel
theorem dX6_support_16 : decode cX6_support 16 = .ok (.ifCond .ne 6, 3) := by decide +kernel
theorem dX6_support_19 : decode cX6_support 19 = .ok (.bipush (-2), 2) := by decide +kernel
theorem dX6_support_21 : decode cX6_support 21 = .ok (.ireturn, 1) := by decide +kernel
theorem dX6_support_22 : decode cX6_support 22 = .ok (.aload_n 0, 1) := by decide +kernel
theorem dX6_support_23 : decode cX6_support 23 = .ok (.iload_n 1, 1) := by decide +kernel
theorem dX6_support_24 : decode cX6_support 24 = .ok (.iconst 2, 1) := by decide +kernel
theorem dX6_support_25 : decode cX6_support 25 = .ok (.invokevirtual 162, 3) := by decide +kernel
theorem dX6_support_28 : decode cX6_support 28 = .ok (.ifCond .ne 19, 3) := by decide +kernel
theorem dX6_support_31 : decode cX6_support 31 = .ok (.aload_n 0, 1) := by decide +kernel
theorem dX6_support_32 : decode cX6_support 32 = .ok (.iload_n 1, 1) := by decide +kernel
theorem dX6_support_33 : decode cX6_support 33 = .ok (.iload_n 1, 1) := by decide +kernel
theorem dX6_support_34 : decode cX6_support 34 = .ok (.iconst 0, 1) := by decide +kernel
theorem dX6_support_35 : decode cX6_support 35 = .ok (.invokevirtual 171, 3) := by decide +kernel
theorem dX6_support_38 : decode cX6_support 38 = .ok (.aload_n 0, 1) := by decide +kernel
theorem dX6_support_39 : decode cX6_support 39 = .ok (.iload_n 1, 1) := by decide +kernel
theorem dX6_support_40 : decode cX6_support 40 = .ok (.iload_n 1, 1) := by decide +kernel
theorem dX6_support_41 : decode cX6_support 41 = .ok (.iconst 1, 1) := by decide +kernel
theorem dX6_support_42 : decode cX6_support 42 = .ok (.invokevirtual 171, 3) := by decide +kernel
theorem dX6_support_45 : decode cX6_support 45 = .ok (.imul, 1) := by decide +kernel
theorem dX6_support_46 : decode cX6_support 46 = .ok (.ireturn, 1) := by decide +kernel
theorem dX6_support_47 : decode cX6_support 47 = .ok (.iconst 0, 1) := by decide +kernel
theorem dX6_support_48 : decode cX6_support 48 = .ok (.istore_n 2, 1) := by decide +kernel
theorem dX6_support_49 : decode cX6_support 49 = .ok (.iconst 0, 1) := by decide +kernel
theorem dX6_support_50 : decode cX6_support 50 = .ok (.istore_n 3, 1) := by decide +kernel
theorem dX6_support_51 : decode cX6_support 51 = .ok (.iload_n 3, 1) := by decide +kernel
theorem dX6_support_52 : decode cX6_support 52 = .ok (.aload_n 0, 1) := by decide +kernel
theorem dX6_support_53 : decode cX6_support 53 = .ok (.getfield 81, 3) := by decide +kernel
theorem dX6_support_56 : decode cX6_support 56 = .ok (.if_icmp .ge 56, 3) := by decide +kernel
theorem dX6_support_59 : decode cX6_support 59 = .ok (.iload_n 3, 1) := by decide +kernel
theorem dX6_support_60 : decode cX6_support 60 = .ok (.iload_n 1, 1) := by decide +kernel
theorem dX6_support_61 : decode cX6_support 61 = .ok (.if_icmp .eq 45, 3) := by decide +kernel
theorem dX6_support_64 : decode cX6_support 64 = .ok (.aload_n 0, 1) := by decide +kernel
theorem dX6_support_65 : decode cX6_support 65 = .ok (.getfield 22, 3) := by decide +kernel
theorem dX6_support_68 : decode cX6_support 68 = .ok (.iload_n 3, 1) := by decide +kernel
theorem dX6_support_69 : decode cX6_support 69 = .ok (.iaload, 1) := by decide +kernel
theorem dX6_support_70 : decode cX6_support 70 = .ok (.ifCond .le 36, 3) := by decide +kernel
theorem dX6_support_73 : decode cX6_support 73 = .ok (.aload_n 0, 1) := by decide +kernel
theorem dX6_support_74 : decode cX6_support 74 = .ok (.iload_n 3, 1) := by decide +kernel
theorem dX6_support_75 : decode cX6_support 75 = .ok (.iconst 2, 1) := by decide +kernel
theorem dX6_support_76 : decode cX6_support 76 = .ok (.invokevirtual 165, 3) := by decide +kernel
theorem dX6_support_79 : decode cX6_support 79 = .ok (.aload_n 0, 1) := by decide +kernel
theorem dX6_support_80 : decode cX6_support 80 = .ok (.iload_n 1, 1) := by decide +kernel
theorem dX6_support_81 : decode cX6_support 81 = .ok (.iconst 2, 1) := by decide +kernel
theorem dX6_support_82 : decode cX6_support 82 = .ok (.invokevirtual 162, 3) := by decide +kernel
theorem dX6_support_85 : decode cX6_support 85 = .ok (.if_icmp .ne 21, 3) := by decide +kernel
theorem dX6_support_88 : decode cX6_support 88 = .ok (.iload_n 2, 1) := by decide +kernel
theorem dX6_support_89 : decode cX6_support 89 = .ok (.aload_n 0, 1) := by decide +kernel
theorem dX6_support_90 : decode cX6_support 90 = .ok (.iload_n 3, 1) := by decide +kernel
theorem dX6_support_91 : decode cX6_support 91 = .ok (.iload_n 1, 1) := by decide +kernel
theorem dX6_support_92 : decode cX6_support 92 = .ok (.iconst 0, 1) := by decide +kernel
theorem dX6_support_93 : decode cX6_support 93 = .ok (.invokevirtual 171, 3) := by decide +kernel
theorem dX6_support_96 : decode cX6_support 96 = .ok (.aload_n 0, 1) := by decide +kernel
theorem dX6_support_97 : decode cX6_support 97 = .ok (.iload_n 3, 1) := by decide +kernel
theorem dX6_support_98 : decode cX6_support 98 = .ok (.iload_n 1, 1) := by decide +kernel
theorem dX6_support_99 : decode cX6_support 99 = .ok (.iconst 1, 1) := by decide +kernel
theorem dX6_support_100 : decode cX6_support 100 = .ok (.invokevirtual 171, 3) := by decide +kernel
theorem dX6_support_103 : decode cX6_support 103 = .ok (.imul, 1) := by decide +kernel
theorem dX6_support_104 : decode cX6_support 104 = .ok (.iadd, 1) := by decide +kernel
theorem dX6_support_105 : decode cX6_support 105 = .ok (.istore_n 2, 1) := by decide +kernel
theorem dX6_support_106 : decode cX6_support 106 = .ok (.iinc 3 1, 3) := by decide +kernel
theorem dX6_support_109 : decode cX6_support 109 = .ok (.goto (-58), 3) := by decide +kernel
theorem dX6_support_112 : decode cX6_support 112 = .ok (.iload_n 2, 1) := by decide +kernel
theorem dX6_support_113 : decode cX6_support 113 = .ok (.ireturn, 1) := by decide +kernel
theorem dX6_centre_0 : decode cX6_centre 0 = .ok (.iload_n 1, 1) := by decide +kernel
theorem dX6_centre_1 : decode cX6_centre 1 = .ok (.ifCond .lt 17, 3) := by decide +kernel
theorem dX6_centre_4 : decode cX6_centre 4 = .ok (.iload_n 1, 1) := by decide +kernel
theorem dX6_centre_5 : decode cX6_centre 5 = .ok (.iconst 2, 1) := by decide +kernel
theorem dX6_centre_6 : decode cX6_centre 6 = .ok (.if_icmp .gt 12, 3) := by decide +kernel
theorem dX6_centre_9 : decode cX6_centre 9 = .ok (.iload_n 2, 1) := by decide +kernel
theorem dX6_centre_10 : decode cX6_centre 10 = .ok (.ifCond .lt 8, 3) := by decide +kernel
theorem dX6_centre_13 : decode cX6_centre 13 = .ok (.iload_n 2, 1) := by decide +kernel
theorem dX6_centre_14 : decode cX6_centre 14 = .ok (.iconst 1, 1) := by decide +kernel
theorem dX6_centre_15 : decode cX6_centre 15 = .ok (.if_icmp .le 5, 3) := by decide +kernel
theorem dX6_centre_18 : decode cX6_centre 18 = .ok (.iconst (-1), 1) := by decide +kernel
theorem dX6_centre_19 : decode cX6_centre 19 = .ok (.ireturn, 1) := by decide +kernel
theorem dX6_centre_20 : decode cX6_centre 20 = .ok (.iconst 0, 1) := by decide +kernel
theorem dX6_centre_21 : decode cX6_centre 21 = .ok (.istore_n 3, 1) := by decide +kernel
theorem dX6_centre_22 : decode cX6_centre 22 = .ok (.iconst 0, 1) := by decide +kernel
theorem dX6_centre_23 : decode cX6_centre 23 = .ok (.istore 4, 2) := by decide +kernel
theorem dX6_centre_25 : decode cX6_centre 25 = .ok (.iconst 0, 1) := by decide +kernel
theorem dX6_centre_26 : decode cX6_centre 26 = .ok (.istore 5, 2) := by decide +kernel
theorem dX6_centre_28 : decode cX6_centre 28 = .ok (.iload 5, 2) := by decide +kernel
theorem dX6_centre_30 : decode cX6_centre 30 = .ok (.aload_n 0, 1) := by decide +kernel
theorem dX6_centre_31 : decode cX6_centre 31 = .ok (.getfield 81, 3) := by decide +kernel
theorem dX6_centre_34 : decode cX6_centre 34 = .ok (.if_icmp .ge 59, 3) := by decide +kernel
theorem dX6_centre_37 : decode cX6_centre 37 = .ok (.aload_n 0, 1) := by decide +kernel
theorem dX6_centre_38 : decode cX6_centre 38 = .ok (.getfield 22, 3) := by decide +kernel
theorem dX6_centre_41 : decode cX6_centre 41 = .ok (.iload 5, 2) := by decide +kernel
theorem dX6_centre_43 : decode cX6_centre 43 = .ok (.iaload, 1) := by decide +kernel
theorem dX6_centre_44 : decode cX6_centre 44 = .ok (.ifCond .le 43, 3) := by decide +kernel
theorem dX6_centre_47 : decode cX6_centre 47 = .ok (.iload_n 3, 1) := by decide +kernel
theorem dX6_centre_48 : decode cX6_centre 48 = .ok (.aload_n 0, 1) := by decide +kernel
theorem dX6_centre_49 : decode cX6_centre 49 = .ok (.getfield 16, 3) := by decide +kernel
theorem dX6_centre_52 : decode cX6_centre 52 = .ok (.iload 5, 2) := by decide +kernel
theorem dX6_centre_54 : decode cX6_centre 54 = .ok (.iaload, 1) := by decide +kernel
theorem dX6_centre_55 : decode cX6_centre 55 = .ok (.aload_n 0, 1) := by decide +kernel
theorem dX6_centre_56 : decode cX6_centre 56 = .ok (.iload 5, 2) := by decide +kernel
theorem dX6_centre_58 : decode cX6_centre 58 = .ok (.iload_n 1, 1) := by decide +kernel
theorem dX6_centre_59 : decode cX6_centre 59 = .ok (.invokevirtual 162, 3) := by decide +kernel
theorem dX6_centre_62 : decode cX6_centre 62 = .ok (.aload_n 0, 1) := by decide +kernel
theorem dX6_centre_63 : decode cX6_centre 63 = .ok (.iload 5, 2) := by decide +kernel
theorem dX6_centre_65 : decode cX6_centre 65 = .ok (.iload_n 1, 1) := by decide +kernel
theorem dX6_centre_66 : decode cX6_centre 66 = .ok (.invokevirtual 165, 3) := by decide +kernel
theorem dX6_centre_69 : decode cX6_centre 69 = .ok (.iadd, 1) := by decide +kernel
theorem dX6_centre_70 : decode cX6_centre 70 = .ok (.imul, 1) := by decide +kernel
theorem dX6_centre_71 : decode cX6_centre 71 = .ok (.iadd, 1) := by decide +kernel
theorem dX6_centre_72 : decode cX6_centre 72 = .ok (.istore_n 3, 1) := by decide +kernel
theorem dX6_centre_73 : decode cX6_centre 73 = .ok (.iload 4, 2) := by decide +kernel
theorem dX6_centre_75 : decode cX6_centre 75 = .ok (.iconst 2, 1) := by decide +kernel
theorem dX6_centre_76 : decode cX6_centre 76 = .ok (.aload_n 0, 1) := by decide +kernel
theorem dX6_centre_77 : decode cX6_centre 77 = .ok (.getfield 16, 3) := by decide +kernel
theorem dX6_centre_80 : decode cX6_centre 80 = .ok (.iload 5, 2) := by decide +kernel
theorem dX6_centre_82 : decode cX6_centre 82 = .ok (.iaload, 1) := by decide +kernel
theorem dX6_centre_83 : decode cX6_centre 83 = .ok (.imul, 1) := by decide +kernel
theorem dX6_centre_84 : decode cX6_centre 84 = .ok (.iadd, 1) := by decide +kernel
theorem dX6_centre_85 : decode cX6_centre 85 = .ok (.istore 4, 2) := by decide +kernel
theorem dX6_centre_87 : decode cX6_centre 87 = .ok (.iinc 5 1, 3) := by decide +kernel
theorem dX6_centre_90 : decode cX6_centre 90 = .ok (.goto (-62), 3) := by decide +kernel
theorem dX6_centre_93 : decode cX6_centre 93 = .ok (.iload 4, 2) := by decide +kernel
theorem dX6_centre_95 : decode cX6_centre 95 = .ok (.ifCond .ne 5, 3) := by decide +kernel
theorem dX6_centre_98 : decode cX6_centre 98 = .ok (.iconst 0, 1) := by decide +kernel
theorem dX6_centre_99 : decode cX6_centre 99 = .ok (.ireturn, 1) := by decide +kernel
theorem dX6_centre_100 : decode cX6_centre 100 = .ok (.iload_n 3, 1) := by decide +kernel
theorem dX6_centre_101 : decode cX6_centre 101 = .ok (.istore 5, 2) := by decide +kernel
theorem dX6_centre_103 : decode cX6_centre 103 = .ok (.iload 4, 2) := by decide +kernel
theorem dX6_centre_105 : decode cX6_centre 105 = .ok (.istore 6, 2) := by decide +kernel
theorem dX6_centre_107 : decode cX6_centre 107 = .ok (.iload 6, 2) := by decide +kernel
theorem dX6_centre_109 : decode cX6_centre 109 = .ok (.ifCond .le 21, 3) := by decide +kernel
theorem dX6_centre_112 : decode cX6_centre 112 = .ok (.iload 5, 2) := by decide +kernel
theorem dX6_centre_114 : decode cX6_centre 114 = .ok (.iload 6, 2) := by decide +kernel
theorem dX6_centre_116 : decode cX6_centre 116 = .ok (.irem, 1) := by decide +kernel
theorem dX6_centre_117 : decode cX6_centre 117 = .ok (.istore 7, 2) := by decide +kernel
theorem dX6_centre_119 : decode cX6_centre 119 = .ok (.iload 6, 2) := by decide +kernel
theorem dX6_centre_121 : decode cX6_centre 121 = .ok (.istore 5, 2) := by decide +kernel
theorem dX6_centre_123 : decode cX6_centre 123 = .ok (.iload 7, 2) := by decide +kernel
theorem dX6_centre_125 : decode cX6_centre 125 = .ok (.istore 6, 2) := by decide +kernel
theorem dX6_centre_127 : decode cX6_centre 127 = .ok (.goto (-20), 3) := by decide +kernel
theorem dX6_centre_130 : decode cX6_centre 130 = .ok (.iload_n 2, 1) := by decide +kernel
theorem dX6_centre_131 : decode cX6_centre 131 = .ok (.ifCond .ne 10, 3) := by decide +kernel
theorem dX6_centre_134 : decode cX6_centre 134 = .ok (.iload_n 3, 1) := by decide +kernel
theorem dX6_centre_135 : decode cX6_centre 135 = .ok (.iload 5, 2) := by decide +kernel
theorem dX6_centre_137 : decode cX6_centre 137 = .ok (.idiv, 1) := by decide +kernel
theorem dX6_centre_138 : decode cX6_centre 138 = .ok (.goto 8, 3) := by decide +kernel
theorem dX6_centre_141 : decode cX6_centre 141 = .ok (.iload 4, 2) := by decide +kernel
theorem dX6_centre_143 : decode cX6_centre 143 = .ok (.iload 5, 2) := by decide +kernel
theorem dX6_centre_145 : decode cX6_centre 145 = .ok (.idiv, 1) := by decide +kernel
theorem dX6_centre_146 : decode cX6_centre 146 = .ok (.ireturn, 1) := by decide +kernel
theorem dX6_planted_0 : decode cX6_planted 0 = .ok (.iconst 0, 1) := by decide +kernel
theorem dX6_planted_1 : decode cX6_planted 1 = .ok (.istore_n 1, 1) := by decide +kernel
theorem dX6_planted_2 : decode cX6_planted 2 = .ok (.iconst 0, 1) := by decide +kernel
theorem dX6_planted_3 : decode cX6_planted 3 = .ok (.istore_n 2, 1) := by decide +kernel
theorem dX6_planted_4 : decode cX6_planted 4 = .ok (.iload_n 2, 1) := by decide +kernel
theorem dX6_planted_5 : decode cX6_planted 5 = .ok (.aload_n 0, 1) := by decide +kernel
theorem dX6_planted_6 : decode cX6_planted 6 = .ok (.getfield 81, 3) := by decide +kernel
theorem dX6_planted_9 : decode cX6_planted 9 = .ok (.if_icmp .ge 28, 3) := by decide +kernel
theorem dX6_planted_12 : decode cX6_planted 12 = .ok (.iload_n 1, 1) := by decide +kernel
theorem dX6_planted_13 : decode cX6_planted 13 = .ok (.aload_n 0, 1) := by decide +kernel
theorem dX6_planted_14 : decode cX6_planted 14 = .ok (.getfield 22, 3) := by decide +kernel
theorem dX6_planted_17 : decode cX6_planted 17 = .ok (.iload_n 2, 1) := by decide +kernel
theorem dX6_planted_18 : decode cX6_planted 18 = .ok (.iaload, 1) := by decide +kernel
theorem dX6_planted_19 : decode cX6_planted 19 = .ok (.ifCond .le 9, 3) := by decide +kernel
theorem dX6_planted_22 : decode cX6_planted 22 = .ok (.iconst 1, 1) := by decide +kernel
theorem dX6_planted_23 : decode cX6_planted 23 = .ok (.iload_n 2, 1) := by decide +kernel
theorem dX6_planted_24 : decode cX6_planted 24 = .ok (.ishl, 1) := by decide +kernel
theorem dX6_planted_25 : decode cX6_planted 25 = .ok (.goto 4, 3) := by decide +kernel
theorem dX6_planted_28 : decode cX6_planted 28 = .ok (.iconst 0, 1) := by decide +kernel
theorem dX6_planted_29 : decode cX6_planted 29 = .ok (.ior, 1) := by decide +kernel
theorem dX6_planted_30 : decode cX6_planted 30 = .ok (.istore_n 1, 1) := by decide +kernel
theorem dX6_planted_31 : decode cX6_planted 31 = .ok (.iinc 2 1, 3) := by decide +kernel
theorem dX6_planted_34 : decode cX6_planted 34 = .ok (.goto (-30), 3) := by decide +kernel
theorem dX6_planted_37 : decode cX6_planted 37 = .ok (.aload_n 0, 1) := by decide +kernel
theorem dX6_planted_38 : decode cX6_planted 38 = .ok (.iconst 0, 1) := by decide +kernel
theorem dX6_planted_39 : decode cX6_planted 39 = .ok (.putfield 174, 3) := by decide +kernel
theorem dX6_planted_42 : decode cX6_planted 42 = .ok (.iconst 0, 1) := by decide +kernel
theorem dX6_planted_43 : decode cX6_planted 43 = .ok (.istore_n 2, 1) := by decide +kernel
theorem dX6_planted_44 : decode cX6_planted 44 = .ok (.iload_n 1, 1) := by decide +kernel
theorem dX6_planted_45 : decode cX6_planted 45 = .ok (.ifCond .eq 28, 3) := by decide +kernel
theorem dX6_planted_48 : decode cX6_planted 48 = .ok (.aload_n 0, 1) := by decide +kernel
theorem dX6_planted_49 : decode cX6_planted 49 = .ok (.getfield 62, 3) := by decide +kernel
theorem dX6_planted_52 : decode cX6_planted 52 = .ok (.iload_n 2, 1) := by decide +kernel
theorem dX6_planted_53 : decode cX6_planted 53 = .ok (.iload_n 1, 1) := by decide +kernel
theorem dX6_planted_54 : decode cX6_planted 54 = .ok (.iastore, 1) := by decide +kernel
theorem dX6_planted_55 : decode cX6_planted 55 = .ok (.aload_n 0, 1) := by decide +kernel
theorem dX6_planted_56 : decode cX6_planted 56 = .ok (.getfield 65, 3) := by decide +kernel
theorem dX6_planted_59 : decode cX6_planted 59 = .ok (.iload_n 2, 1) := by decide +kernel
theorem dX6_planted_60 : decode cX6_planted 60 = .ok (.bipush (-9), 2) := by decide +kernel
theorem dX6_planted_62 : decode cX6_planted 62 = .ok (.iastore, 1) := by decide +kernel
theorem dX6_planted_63 : decode cX6_planted 63 = .ok (.aload_n 0, 1) := by decide +kernel
theorem dX6_planted_64 : decode cX6_planted 64 = .ok (.getfield 68, 3) := by decide +kernel
theorem dX6_planted_67 : decode cX6_planted 67 = .ok (.iload_n 2, 1) := by decide +kernel
theorem dX6_planted_68 : decode cX6_planted 68 = .ok (.iinc 2 1, 3) := by decide +kernel
theorem dX6_planted_71 : decode cX6_planted 71 = .ok (.iconst 0, 1) := by decide +kernel
theorem dX6_planted_72 : decode cX6_planted 72 = .ok (.iastore, 1) := by decide +kernel
theorem dX6_planted_73 : decode cX6_planted 73 = .ok (.iload_n 2, 1) := by decide +kernel
theorem dX6_planted_74 : decode cX6_planted 74 = .ok (.ifCond .le 244, 3) := by decide +kernel
theorem dX6_planted_77 : decode cX6_planted 77 = .ok (.iinc 2 (-1), 3) := by decide +kernel
theorem dX6_planted_80 : decode cX6_planted 80 = .ok (.aload_n 0, 1) := by decide +kernel
theorem dX6_planted_81 : decode cX6_planted 81 = .ok (.dup, 1) := by decide +kernel
theorem dX6_planted_82 : decode cX6_planted 82 = .ok (.getfield 174, 3) := by decide +kernel
theorem dX6_planted_85 : decode cX6_planted 85 = .ok (.dup_x1, 1) := by decide +kernel
theorem dX6_planted_86 : decode cX6_planted 86 = .ok (.iconst 1, 1) := by decide +kernel
theorem dX6_planted_87 : decode cX6_planted 87 = .ok (.iadd, 1) := by decide +kernel
theorem dX6_planted_88 : decode cX6_planted 88 = .ok (.putfield 174, 3) := by decide +kernel
theorem dX6_planted_91 : decode cX6_planted 91 = .ok (.istore_n 3, 1) := by decide +kernel
theorem dX6_planted_92 : decode cX6_planted 92 = .ok (.aload_n 0, 1) := by decide +kernel
theorem dX6_planted_93 : decode cX6_planted 93 = .ok (.getfield 62, 3) := by decide +kernel
theorem dX6_planted_96 : decode cX6_planted 96 = .ok (.iload_n 2, 1) := by decide +kernel
theorem dX6_planted_97 : decode cX6_planted 97 = .ok (.iaload, 1) := by decide +kernel
theorem dX6_planted_98 : decode cX6_planted 98 = .ok (.istore 4, 2) := by decide +kernel
theorem dX6_planted_100 : decode cX6_planted 100 = .ok (.aload_n 0, 1) := by decide +kernel
theorem dX6_planted_101 : decode cX6_planted 101 = .ok (.getfield 65, 3) := by decide +kernel
theorem dX6_planted_104 : decode cX6_planted 104 = .ok (.iload_n 2, 1) := by decide +kernel
theorem dX6_planted_105 : decode cX6_planted 105 = .ok (.iaload, 1) := by decide +kernel
theorem dX6_planted_106 : decode cX6_planted 106 = .ok (.istore 5, 2) := by decide +kernel
theorem dX6_planted_108 : decode cX6_planted 108 = .ok (.iload 5, 2) := by decide +kernel
theorem dX6_planted_110 : decode cX6_planted 110 = .ok (.bipush (-9), 2) := by decide +kernel
theorem dX6_planted_112 : decode cX6_planted 112 = .ok (.if_icmp .eq 21, 3) := by decide +kernel
theorem dX6_planted_115 : decode cX6_planted 115 = .ok (.aload_n 0, 1) := by decide +kernel
theorem dX6_planted_116 : decode cX6_planted 116 = .ok (.getfield 68, 3) := by decide +kernel
theorem dX6_planted_119 : decode cX6_planted 119 = .ok (.iload_n 2, 1) := by decide +kernel
theorem dX6_planted_120 : decode cX6_planted 120 = .ok (.iaload, 1) := by decide +kernel
theorem dX6_planted_121 : decode cX6_planted 121 = .ok (.iconst 1, 1) := by decide +kernel
theorem dX6_planted_122 : decode cX6_planted 122 = .ok (.if_icmp .ne 11, 3) := by decide +kernel
theorem dX6_planted_125 : decode cX6_planted 125 = .ok (.aload_n 0, 1) := by decide +kernel
theorem dX6_planted_126 : decode cX6_planted 126 = .ok (.getfield 56, 3) := by decide +kernel
theorem dX6_planted_129 : decode cX6_planted 129 = .ok (.iload 5, 2) := by decide +kernel
theorem dX6_planted_131 : decode cX6_planted 131 = .ok (.iload_n 3, 1) := by decide +kernel
theorem dX6_planted_132 : decode cX6_planted 132 = .ok (.iastore, 1) := by decide +kernel
theorem dX6_planted_133 : decode cX6_planted 133 = .ok (.iload 5, 2) := by decide +kernel
theorem dX6_planted_135 : decode cX6_planted 135 = .ok (.bipush (-9), 2) := by decide +kernel
theorem dX6_planted_137 : decode cX6_planted 137 = .ok (.if_icmp .eq 21, 3) := by decide +kernel
theorem dX6_planted_140 : decode cX6_planted 140 = .ok (.aload_n 0, 1) := by decide +kernel
theorem dX6_planted_141 : decode cX6_planted 141 = .ok (.getfield 68, 3) := by decide +kernel
theorem dX6_planted_144 : decode cX6_planted 144 = .ok (.iload_n 2, 1) := by decide +kernel
theorem dX6_planted_145 : decode cX6_planted 145 = .ok (.iaload, 1) := by decide +kernel
theorem dX6_planted_146 : decode cX6_planted 146 = .ok (.iconst 2, 1) := by decide +kernel
end
section
theorem dX6_planted_147 : decode cX6_planted 147 = .ok (.if_icmp .ne 11, 3) := by decide +kernel
theorem dX6_planted_150 : decode cX6_planted 150 = .ok (.aload_n 0, 1) := by decide +kernel
theorem dX6_planted_151 : decode cX6_planted 151 = .ok (.getfield 59, 3) := by decide +kernel
theorem dX6_planted_154 : decode cX6_planted 154 = .ok (.iload 5, 2) := by decide +kernel
theorem dX6_planted_156 : decode cX6_planted 156 = .ok (.iload_n 3, 1) := by decide +kernel
theorem dX6_planted_157 : decode cX6_planted 157 = .ok (.iastore, 1) := by decide +kernel
theorem dX6_planted_158 : decode cX6_planted 158 = .ok (.aload_n 0, 1) := by decide +kernel
theorem dX6_planted_159 : decode cX6_planted 159 = .ok (.getfield 56, 3) := by decide +kernel
theorem dX6_planted_162 : decode cX6_planted 162 = .ok (.iload_n 3, 1) := by decide +kernel
theorem dX6_planted_163 : decode cX6_planted 163 = .ok (.bipush (-9), 2) := by decide +kernel
theorem dX6_planted_165 : decode cX6_planted 165 = .ok (.iastore, 1) := by decide +kernel
theorem dX6_planted_166 : decode cX6_planted 166 = .ok (.aload_n 0, 1) := by decide +kernel
theorem dX6_planted_167 : decode cX6_planted 167 = .ok (.getfield 59, 3) := by decide +kernel
theorem dX6_planted_170 : decode cX6_planted 170 = .ok (.iload_n 3, 1) := by decide +kernel
theorem dX6_planted_171 : decode cX6_planted 171 = .ok (.bipush (-9), 2) := by decide +kernel
theorem dX6_planted_173 : decode cX6_planted 173 = .ok (.iastore, 1) := by decide +kernel
theorem dX6_planted_174 : decode cX6_planted 174 = .ok (.aload_n 0, 1) := by decide +kernel
theorem dX6_planted_175 : decode cX6_planted 175 = .ok (.getfield 50, 3) := by decide +kernel
theorem dX6_planted_178 : decode cX6_planted 178 = .ok (.iload_n 3, 1) := by decide +kernel
theorem dX6_planted_179 : decode cX6_planted 179 = .ok (.bipush (-9), 2) := by decide +kernel
theorem dX6_planted_181 : decode cX6_planted 181 = .ok (.iastore, 1) := by decide +kernel
theorem dX6_planted_182 : decode cX6_planted 182 = .ok (.aload_n 0, 1) := by decide +kernel
theorem dX6_planted_183 : decode cX6_planted 183 = .ok (.getfield 53, 3) := by decide +kernel
theorem dX6_planted_186 : decode cX6_planted 186 = .ok (.iload_n 3, 1) := by decide +kernel
theorem dX6_planted_187 : decode cX6_planted 187 = .ok (.iload 4, 2) := by decide +kernel
theorem dX6_planted_189 : decode cX6_planted 189 = .ok (.invokestatic 177, 3) := by decide +kernel
theorem dX6_planted_192 : decode cX6_planted 192 = .ok (.iastore, 1) := by decide +kernel
theorem dX6_planted_193 : decode cX6_planted 193 = .ok (.iload 4, 2) := by decide +kernel
theorem dX6_planted_195 : decode cX6_planted 195 = .ok (.iload 4, 2) := by decide +kernel
theorem dX6_planted_197 : decode cX6_planted 197 = .ok (.iconst 1, 1) := by decide +kernel
theorem dX6_planted_198 : decode cX6_planted 198 = .ok (.isub, 1) := by decide +kernel
theorem dX6_planted_199 : decode cX6_planted 199 = .ok (.iand, 1) := by decide +kernel
theorem dX6_planted_200 : decode cX6_planted 200 = .ok (.ifCond .eq 115, 3) := by decide +kernel
theorem dX6_planted_203 : decode cX6_planted 203 = .ok (.aload_n 0, 1) := by decide +kernel
theorem dX6_planted_204 : decode cX6_planted 204 = .ok (.iload 4, 2) := by decide +kernel
theorem dX6_planted_206 : decode cX6_planted 206 = .ok (.invokevirtual 180, 3) := by decide +kernel
theorem dX6_planted_209 : decode cX6_planted 209 = .ok (.istore 6, 2) := by decide +kernel
theorem dX6_planted_211 : decode cX6_planted 211 = .ok (.iload 6, 2) := by decide +kernel
theorem dX6_planted_213 : decode cX6_planted 213 = .ok (.bipush (-9), 2) := by decide +kernel
theorem dX6_planted_215 : decode cX6_planted 215 = .ok (.if_icmp .ne 5, 3) := by decide +kernel
theorem dX6_planted_218 : decode cX6_planted 218 = .ok (.iconst 0, 1) := by decide +kernel
theorem dX6_planted_219 : decode cX6_planted 219 = .ok (.ireturn, 1) := by decide +kernel
theorem dX6_planted_220 : decode cX6_planted 220 = .ok (.aload_n 0, 1) := by decide +kernel
theorem dX6_planted_221 : decode cX6_planted 221 = .ok (.getfield 50, 3) := by decide +kernel
theorem dX6_planted_224 : decode cX6_planted 224 = .ok (.iload_n 3, 1) := by decide +kernel
theorem dX6_planted_225 : decode cX6_planted 225 = .ok (.iload 6, 2) := by decide +kernel
theorem dX6_planted_227 : decode cX6_planted 227 = .ok (.bipush 32, 2) := by decide +kernel
theorem dX6_planted_229 : decode cX6_planted 229 = .ok (.idiv, 1) := by decide +kernel
theorem dX6_planted_230 : decode cX6_planted 230 = .ok (.iastore, 1) := by decide +kernel
theorem dX6_planted_231 : decode cX6_planted 231 = .ok (.aload_n 0, 1) := by decide +kernel
theorem dX6_planted_232 : decode cX6_planted 232 = .ok (.getfield 53, 3) := by decide +kernel
theorem dX6_planted_235 : decode cX6_planted 235 = .ok (.iload_n 3, 1) := by decide +kernel
theorem dX6_planted_236 : decode cX6_planted 236 = .ok (.iload 6, 2) := by decide +kernel
theorem dX6_planted_238 : decode cX6_planted 238 = .ok (.bipush 32, 2) := by decide +kernel
theorem dX6_planted_240 : decode cX6_planted 240 = .ok (.irem, 1) := by decide +kernel
theorem dX6_planted_241 : decode cX6_planted 241 = .ok (.iastore, 1) := by decide +kernel
theorem dX6_planted_242 : decode cX6_planted 242 = .ok (.aload_n 0, 1) := by decide +kernel
theorem dX6_planted_243 : decode cX6_planted 243 = .ok (.iload 4, 2) := by decide +kernel
theorem dX6_planted_245 : decode cX6_planted 245 = .ok (.iload 6, 2) := by decide +kernel
theorem dX6_planted_247 : decode cX6_planted 247 = .ok (.bipush 32, 2) := by decide +kernel
theorem dX6_planted_249 : decode cX6_planted 249 = .ok (.idiv, 1) := by decide +kernel
theorem dX6_planted_250 : decode cX6_planted 250 = .ok (.iload 6, 2) := by decide +kernel
theorem dX6_planted_252 : decode cX6_planted 252 = .ok (.bipush 32, 2) := by decide +kernel
theorem dX6_planted_254 : decode cX6_planted 254 = .ok (.irem, 1) := by decide +kernel
theorem dX6_planted_255 : decode cX6_planted 255 = .ok (.invokevirtual 183, 3) := by decide +kernel
theorem dX6_planted_258 : decode cX6_planted 258 = .ok (.istore 7, 2) := by decide +kernel
theorem dX6_planted_260 : decode cX6_planted 260 = .ok (.aload_n 0, 1) := by decide +kernel
theorem dX6_planted_261 : decode cX6_planted 261 = .ok (.getfield 62, 3) := by decide +kernel
theorem dX6_planted_264 : decode cX6_planted 264 = .ok (.iload_n 2, 1) := by decide +kernel
theorem dX6_planted_265 : decode cX6_planted 265 = .ok (.iload 4, 2) := by decide +kernel
theorem dX6_planted_267 : decode cX6_planted 267 = .ok (.iload 7, 2) := by decide +kernel
theorem dX6_planted_269 : decode cX6_planted 269 = .ok (.iconst (-1), 1) := by decide +kernel
theorem dX6_planted_270 : decode cX6_planted 270 = .ok (.ixor, 1) := by decide +kernel
theorem dX6_planted_271 : decode cX6_planted 271 = .ok (.iand, 1) := by decide +kernel
theorem dX6_planted_272 : decode cX6_planted 272 = .ok (.iastore, 1) := by decide +kernel
theorem dX6_planted_273 : decode cX6_planted 273 = .ok (.aload_n 0, 1) := by decide +kernel
theorem dX6_planted_274 : decode cX6_planted 274 = .ok (.getfield 65, 3) := by decide +kernel
theorem dX6_planted_277 : decode cX6_planted 277 = .ok (.iload_n 2, 1) := by decide +kernel
theorem dX6_planted_278 : decode cX6_planted 278 = .ok (.iload_n 3, 1) := by decide +kernel
theorem dX6_planted_279 : decode cX6_planted 279 = .ok (.iastore, 1) := by decide +kernel
theorem dX6_planted_280 : decode cX6_planted 280 = .ok (.aload_n 0, 1) := by decide +kernel
theorem dX6_planted_281 : decode cX6_planted 281 = .ok (.getfield 68, 3) := by decide +kernel
theorem dX6_planted_284 : decode cX6_planted 284 = .ok (.iload_n 2, 1) := by decide +kernel
theorem dX6_planted_285 : decode cX6_planted 285 = .ok (.iinc 2 1, 3) := by decide +kernel
theorem dX6_planted_288 : decode cX6_planted 288 = .ok (.iconst 2, 1) := by decide +kernel
theorem dX6_planted_289 : decode cX6_planted 289 = .ok (.iastore, 1) := by decide +kernel
theorem dX6_planted_290 : decode cX6_planted 290 = .ok (.aload_n 0, 1) := by decide +kernel
theorem dX6_planted_291 : decode cX6_planted 291 = .ok (.getfield 62, 3) := by decide +kernel
theorem dX6_planted_294 : decode cX6_planted 294 = .ok (.iload_n 2, 1) := by decide +kernel
theorem dX6_planted_295 : decode cX6_planted 295 = .ok (.iload 7, 2) := by decide +kernel
theorem dX6_planted_297 : decode cX6_planted 297 = .ok (.iastore, 1) := by decide +kernel
theorem dX6_planted_298 : decode cX6_planted 298 = .ok (.aload_n 0, 1) := by decide +kernel
theorem dX6_planted_299 : decode cX6_planted 299 = .ok (.getfield 65, 3) := by decide +kernel
theorem dX6_planted_302 : decode cX6_planted 302 = .ok (.iload_n 2, 1) := by decide +kernel
theorem dX6_planted_303 : decode cX6_planted 303 = .ok (.iload_n 3, 1) := by decide +kernel
theorem dX6_planted_304 : decode cX6_planted 304 = .ok (.iastore, 1) := by decide +kernel
theorem dX6_planted_305 : decode cX6_planted 305 = .ok (.aload_n 0, 1) := by decide +kernel
theorem dX6_planted_306 : decode cX6_planted 306 = .ok (.getfield 68, 3) := by decide +kernel
theorem dX6_planted_309 : decode cX6_planted 309 = .ok (.iload_n 2, 1) := by decide +kernel
theorem dX6_planted_310 : decode cX6_planted 310 = .ok (.iinc 2 1, 3) := by decide +kernel
theorem dX6_planted_313 : decode cX6_planted 313 = .ok (.iconst 1, 1) := by decide +kernel
theorem dX6_planted_314 : decode cX6_planted 314 = .ok (.iastore, 1) := by decide +kernel
theorem dX6_planted_315 : decode cX6_planted 315 = .ok (.goto (-242), 3) := by decide +kernel
theorem dX6_planted_318 : decode cX6_planted 318 = .ok (.aload_n 0, 1) := by decide +kernel
theorem dX6_planted_319 : decode cX6_planted 319 = .ok (.getfield 174, 3) := by decide +kernel
theorem dX6_planted_322 : decode cX6_planted 322 = .ok (.ireturn, 1) := by decide +kernel
theorem dX6_firstOf_0 : decode cX6_firstOf 0 = .ok (.iconst 0, 1) := by decide +kernel
theorem dX6_firstOf_1 : decode cX6_firstOf 1 = .ok (.istore_n 1, 1) := by decide +kernel
theorem dX6_firstOf_2 : decode cX6_firstOf 2 = .ok (.iload_n 0, 1) := by decide +kernel
theorem dX6_firstOf_3 : decode cX6_firstOf 3 = .ok (.iload_n 1, 1) := by decide +kernel
theorem dX6_firstOf_4 : decode cX6_firstOf 4 = .ok (.ishr, 1) := by decide +kernel
theorem dX6_firstOf_5 : decode cX6_firstOf 5 = .ok (.iconst 1, 1) := by decide +kernel
theorem dX6_firstOf_6 : decode cX6_firstOf 6 = .ok (.iand, 1) := by decide +kernel
theorem dX6_firstOf_7 : decode cX6_firstOf 7 = .ok (.ifCond .ne 9, 3) := by decide +kernel
theorem dX6_firstOf_10 : decode cX6_firstOf 10 = .ok (.iinc 1 1, 3) := by decide +kernel
theorem dX6_firstOf_13 : decode cX6_firstOf 13 = .ok (.goto (-11), 3) := by decide +kernel
theorem dX6_firstOf_16 : decode cX6_firstOf 16 = .ok (.iload_n 1, 1) := by decide +kernel
theorem dX6_firstOf_17 : decode cX6_firstOf 17 = .ok (.ireturn, 1) := by decide +kernel
theorem dX6_cutOf_0 : decode cX6_cutOf 0 = .ok (.iconst 0, 1) := by decide +kernel
theorem dX6_cutOf_1 : decode cX6_cutOf 1 = .ok (.istore_n 2, 1) := by decide +kernel
theorem dX6_cutOf_2 : decode cX6_cutOf 2 = .ok (.iload_n 2, 1) := by decide +kernel
theorem dX6_cutOf_3 : decode cX6_cutOf 3 = .ok (.iconst 3, 1) := by decide +kernel
theorem dX6_cutOf_4 : decode cX6_cutOf 4 = .ok (.if_icmp .ge 44, 3) := by decide +kernel
theorem dX6_cutOf_7 : decode cX6_cutOf 7 = .ok (.iconst 1, 1) := by decide +kernel
theorem dX6_cutOf_8 : decode cX6_cutOf 8 = .ok (.istore_n 3, 1) := by decide +kernel
theorem dX6_cutOf_9 : decode cX6_cutOf 9 = .ok (.iload_n 3, 1) := by decide +kernel
theorem dX6_cutOf_10 : decode cX6_cutOf 10 = .ok (.aload_n 0, 1) := by decide +kernel
theorem dX6_cutOf_11 : decode cX6_cutOf 11 = .ok (.getfield 7, 3) := by decide +kernel
theorem dX6_cutOf_14 : decode cX6_cutOf 14 = .ok (.iload_n 2, 1) := by decide +kernel
theorem dX6_cutOf_15 : decode cX6_cutOf 15 = .ok (.iaload, 1) := by decide +kernel
theorem dX6_cutOf_16 : decode cX6_cutOf 16 = .ok (.if_icmp .ge 26, 3) := by decide +kernel
theorem dX6_cutOf_19 : decode cX6_cutOf 19 = .ok (.aload_n 0, 1) := by decide +kernel
theorem dX6_cutOf_20 : decode cX6_cutOf 20 = .ok (.iload_n 1, 1) := by decide +kernel
theorem dX6_cutOf_21 : decode cX6_cutOf 21 = .ok (.iload_n 2, 1) := by decide +kernel
theorem dX6_cutOf_22 : decode cX6_cutOf 22 = .ok (.iload_n 3, 1) := by decide +kernel
theorem dX6_cutOf_23 : decode cX6_cutOf 23 = .ok (.invokevirtual 183, 3) := by decide +kernel
theorem dX6_cutOf_26 : decode cX6_cutOf 26 = .ok (.ifCond .le 10, 3) := by decide +kernel
theorem dX6_cutOf_29 : decode cX6_cutOf 29 = .ok (.bipush 32, 2) := by decide +kernel
theorem dX6_cutOf_31 : decode cX6_cutOf 31 = .ok (.iload_n 2, 1) := by decide +kernel
theorem dX6_cutOf_32 : decode cX6_cutOf 32 = .ok (.imul, 1) := by decide +kernel
theorem dX6_cutOf_33 : decode cX6_cutOf 33 = .ok (.iload_n 3, 1) := by decide +kernel
theorem dX6_cutOf_34 : decode cX6_cutOf 34 = .ok (.iadd, 1) := by decide +kernel
theorem dX6_cutOf_35 : decode cX6_cutOf 35 = .ok (.ireturn, 1) := by decide +kernel
theorem dX6_cutOf_36 : decode cX6_cutOf 36 = .ok (.iinc 3 1, 3) := by decide +kernel
theorem dX6_cutOf_39 : decode cX6_cutOf 39 = .ok (.goto (-30), 3) := by decide +kernel
theorem dX6_cutOf_42 : decode cX6_cutOf 42 = .ok (.iinc 2 1, 3) := by decide +kernel
theorem dX6_cutOf_45 : decode cX6_cutOf 45 = .ok (.goto (-43), 3) := by decide +kernel
theorem dX6_cutOf_48 : decode cX6_cutOf 48 = .ok (.bipush (-9), 2) := by decide +kernel
theorem dX6_cutOf_50 : decode cX6_cutOf 50 = .ok (.ireturn, 1) := by decide +kernel
theorem dX6_before_0 : decode cX6_before 0 = .ok (.iconst 0, 1) := by decide +kernel
theorem dX6_before_1 : decode cX6_before 1 = .ok (.istore 4, 2) := by decide +kernel
theorem dX6_before_3 : decode cX6_before 3 = .ok (.iconst 0, 1) := by decide +kernel
theorem dX6_before_4 : decode cX6_before 4 = .ok (.istore 5, 2) := by decide +kernel
theorem dX6_before_6 : decode cX6_before 6 = .ok (.iload 5, 2) := by decide +kernel
theorem dX6_before_8 : decode cX6_before 8 = .ok (.aload_n 0, 1) := by decide +kernel
theorem dX6_before_9 : decode cX6_before 9 = .ok (.getfield 81, 3) := by decide +kernel
theorem dX6_before_12 : decode cX6_before 12 = .ok (.if_icmp .ge 55, 3) := by decide +kernel
theorem dX6_before_15 : decode cX6_before 15 = .ok (.iload_n 1, 1) := by decide +kernel
theorem dX6_before_16 : decode cX6_before 16 = .ok (.iload 5, 2) := by decide +kernel
theorem dX6_before_18 : decode cX6_before 18 = .ok (.ishr, 1) := by decide +kernel
theorem dX6_before_19 : decode cX6_before 19 = .ok (.iconst 1, 1) := by decide +kernel
theorem dX6_before_20 : decode cX6_before 20 = .ok (.iand, 1) := by decide +kernel
theorem dX6_before_21 : decode cX6_before 21 = .ok (.iconst 1, 1) := by decide +kernel
theorem dX6_before_22 : decode cX6_before 22 = .ok (.if_icmp .ne 39, 3) := by decide +kernel
theorem dX6_before_25 : decode cX6_before 25 = .ok (.aload_n 0, 1) := by decide +kernel
theorem dX6_before_26 : decode cX6_before 26 = .ok (.iload 5, 2) := by decide +kernel
theorem dX6_before_28 : decode cX6_before 28 = .ok (.iload_n 2, 1) := by decide +kernel
theorem dX6_before_29 : decode cX6_before 29 = .ok (.invokevirtual 165, 3) := by decide +kernel
theorem dX6_before_32 : decode cX6_before 32 = .ok (.iload_n 3, 1) := by decide +kernel
theorem dX6_before_33 : decode cX6_before 33 = .ok (.if_icmp .gt 15, 3) := by decide +kernel
theorem dX6_before_36 : decode cX6_before 36 = .ok (.iload 4, 2) := by decide +kernel
theorem dX6_before_38 : decode cX6_before 38 = .ok (.iconst 1, 1) := by decide +kernel
theorem dX6_before_39 : decode cX6_before 39 = .ok (.iload 5, 2) := by decide +kernel
theorem dX6_before_41 : decode cX6_before 41 = .ok (.ishl, 1) := by decide +kernel
theorem dX6_before_42 : decode cX6_before 42 = .ok (.ior, 1) := by decide +kernel
theorem dX6_before_43 : decode cX6_before 43 = .ok (.istore 4, 2) := by decide +kernel
theorem dX6_before_45 : decode cX6_before 45 = .ok (.goto 16, 3) := by decide +kernel
theorem dX6_before_48 : decode cX6_before 48 = .ok (.aload_n 0, 1) := by decide +kernel
theorem dX6_before_49 : decode cX6_before 49 = .ok (.iload 5, 2) := by decide +kernel
theorem dX6_before_51 : decode cX6_before 51 = .ok (.iload_n 2, 1) := by decide +kernel
theorem dX6_before_52 : decode cX6_before 52 = .ok (.invokevirtual 162, 3) := by decide +kernel
theorem dX6_before_55 : decode cX6_before 55 = .ok (.iload_n 3, 1) := by decide +kernel
theorem dX6_before_56 : decode cX6_before 56 = .ok (.if_icmp .ge 5, 3) := by decide +kernel
theorem dX6_before_59 : decode cX6_before 59 = .ok (.iconst 0, 1) := by decide +kernel
theorem dX6_before_60 : decode cX6_before 60 = .ok (.ireturn, 1) := by decide +kernel
theorem dX6_before_61 : decode cX6_before 61 = .ok (.iinc 5 1, 3) := by decide +kernel
theorem dX6_before_64 : decode cX6_before 64 = .ok (.goto (-58), 3) := by decide +kernel
theorem dX6_before_67 : decode cX6_before 67 = .ok (.iload 4, 2) := by decide +kernel
theorem dX6_before_69 : decode cX6_before 69 = .ok (.iload_n 1, 1) := by decide +kernel
theorem dX6_before_70 : decode cX6_before 70 = .ok (.if_icmp .ne 7, 3) := by decide +kernel
theorem dX6_before_73 : decode cX6_before 73 = .ok (.iconst 0, 1) := by decide +kernel
theorem dX6_before_74 : decode cX6_before 74 = .ok (.goto 5, 3) := by decide +kernel
theorem dX6_before_77 : decode cX6_before 77 = .ok (.iload 4, 2) := by decide +kernel
theorem dX6_before_79 : decode cX6_before 79 = .ok (.ireturn, 1) := by decide +kernel
theorem dX6_tree_0 : decode cX6_tree 0 = .ok (.aload_n 0, 1) := by decide +kernel
theorem dX6_tree_1 : decode cX6_tree 1 = .ok (.invokevirtual 158, 3) := by decide +kernel
theorem dX6_tree_4 : decode cX6_tree 4 = .ok (.ifCond .le 8, 3) := by decide +kernel
theorem dX6_tree_7 : decode cX6_tree 7 = .ok (.bipush (-2), 2) := by decide +kernel
theorem dX6_tree_9 : decode cX6_tree 9 = .ok (.goto 7, 3) := by decide +kernel
theorem dX6_tree_12 : decode cX6_tree 12 = .ok (.aload_n 0, 1) := by decide +kernel
theorem dX6_tree_13 : decode cX6_tree 13 = .ok (.invokevirtual 186, 3) := by decide +kernel
theorem dX6_tree_16 : decode cX6_tree 16 = .ok (.ireturn, 1) := by decide +kernel
theorem dX6_node_0 : decode cX6_node 0 = .ok (.iload_n 2, 1) := by decide +kernel
theorem dX6_node_1 : decode cX6_node 1 = .ok (.ifCond .lt 18, 3) := by decide +kernel
theorem dX6_node_4 : decode cX6_node 4 = .ok (.iload_n 2, 1) := by decide +kernel
theorem dX6_node_5 : decode cX6_node 5 = .ok (.iconst 3, 1) := by decide +kernel
theorem dX6_node_6 : decode cX6_node 6 = .ok (.if_icmp .gt 13, 3) := by decide +kernel
theorem dX6_node_9 : decode cX6_node 9 = .ok (.iload_n 1, 1) := by decide +kernel
theorem dX6_node_10 : decode cX6_node 10 = .ok (.ifCond .lt 9, 3) := by decide +kernel
theorem dX6_node_13 : decode cX6_node 13 = .ok (.iload_n 1, 1) := by decide +kernel
theorem dX6_node_14 : decode cX6_node 14 = .ok (.bipush 14, 2) := by decide +kernel
theorem dX6_node_16 : decode cX6_node 16 = .ok (.if_icmp .le 5, 3) := by decide +kernel
theorem dX6_node_19 : decode cX6_node 19 = .ok (.iconst (-1), 1) := by decide +kernel
theorem dX6_node_20 : decode cX6_node 20 = .ok (.ireturn, 1) := by decide +kernel
theorem dX6_node_21 : decode cX6_node 21 = .ok (.aload_n 0, 1) := by decide +kernel
theorem dX6_node_22 : decode cX6_node 22 = .ok (.invokevirtual 158, 3) := by decide +kernel
theorem dX6_node_25 : decode cX6_node 25 = .ok (.ifCond .le 6, 3) := by decide +kernel
theorem dX6_node_28 : decode cX6_node 28 = .ok (.bipush (-2), 2) := by decide +kernel
theorem dX6_node_30 : decode cX6_node 30 = .ok (.ireturn, 1) := by decide +kernel
theorem dX6_node_31 : decode cX6_node 31 = .ok (.iload_n 1, 1) := by decide +kernel
theorem dX6_node_32 : decode cX6_node 32 = .ok (.aload_n 0, 1) := by decide +kernel
theorem dX6_node_33 : decode cX6_node 33 = .ok (.invokevirtual 186, 3) := by decide +kernel
theorem dX6_node_36 : decode cX6_node 36 = .ok (.if_icmp .lt 6, 3) := by decide +kernel
theorem dX6_node_39 : decode cX6_node 39 = .ok (.bipush (-9), 2) := by decide +kernel
theorem dX6_node_41 : decode cX6_node 41 = .ok (.ireturn, 1) := by decide +kernel
theorem dX6_node_42 : decode cX6_node 42 = .ok (.iload_n 2, 1) := by decide +kernel
theorem dX6_node_43 : decode cX6_node 43 = .ok (.ifCond .ne 12, 3) := by decide +kernel
theorem dX6_node_46 : decode cX6_node 46 = .ok (.aload_n 0, 1) := by decide +kernel
theorem dX6_node_47 : decode cX6_node 47 = .ok (.getfield 50, 3) := by decide +kernel
theorem dX6_node_50 : decode cX6_node 50 = .ok (.iload_n 1, 1) := by decide +kernel
theorem dX6_node_51 : decode cX6_node 51 = .ok (.iaload, 1) := by decide +kernel
theorem dX6_node_52 : decode cX6_node 52 = .ok (.goto 37, 3) := by decide +kernel
theorem dX6_node_55 : decode cX6_node 55 = .ok (.iload_n 2, 1) := by decide +kernel
theorem dX6_node_56 : decode cX6_node 56 = .ok (.iconst 1, 1) := by decide +kernel
theorem dX6_node_57 : decode cX6_node 57 = .ok (.if_icmp .ne 12, 3) := by decide +kernel
theorem dX6_node_60 : decode cX6_node 60 = .ok (.aload_n 0, 1) := by decide +kernel
theorem dX6_node_61 : decode cX6_node 61 = .ok (.getfield 53, 3) := by decide +kernel
theorem dX6_node_64 : decode cX6_node 64 = .ok (.iload_n 1, 1) := by decide +kernel
theorem dX6_node_65 : decode cX6_node 65 = .ok (.iaload, 1) := by decide +kernel
theorem dX6_node_66 : decode cX6_node 66 = .ok (.goto 23, 3) := by decide +kernel
theorem dX6_node_69 : decode cX6_node 69 = .ok (.iload_n 2, 1) := by decide +kernel
theorem dX6_node_70 : decode cX6_node 70 = .ok (.iconst 2, 1) := by decide +kernel
theorem dX6_node_71 : decode cX6_node 71 = .ok (.if_icmp .ne 12, 3) := by decide +kernel
theorem dX6_node_74 : decode cX6_node 74 = .ok (.aload_n 0, 1) := by decide +kernel
theorem dX6_node_75 : decode cX6_node 75 = .ok (.getfield 56, 3) := by decide +kernel
theorem dX6_node_78 : decode cX6_node 78 = .ok (.iload_n 1, 1) := by decide +kernel
theorem dX6_node_79 : decode cX6_node 79 = .ok (.iaload, 1) := by decide +kernel
theorem dX6_node_80 : decode cX6_node 80 = .ok (.goto 9, 3) := by decide +kernel
theorem dX6_node_83 : decode cX6_node 83 = .ok (.aload_n 0, 1) := by decide +kernel
theorem dX6_node_84 : decode cX6_node 84 = .ok (.getfield 59, 3) := by decide +kernel
theorem dX6_node_87 : decode cX6_node 87 = .ok (.iload_n 1, 1) := by decide +kernel
theorem dX6_node_88 : decode cX6_node 88 = .ok (.iaload, 1) := by decide +kernel
theorem dX6_node_89 : decode cX6_node 89 = .ok (.ireturn, 1) := by decide +kernel
theorem dX6_worth_0 : decode cX6_worth 0 = .ok (.iload_n 0, 1) := by decide +kernel
theorem dX6_worth_1 : decode cX6_worth 1 = .ok (.iconst 2, 1) := by decide +kernel
theorem dX6_worth_2 : decode cX6_worth 2 = .ok (.idiv, 1) := by decide +kernel
theorem dX6_worth_3 : decode cX6_worth 3 = .ok (.istore_n 3, 1) := by decide +kernel
theorem dX6_worth_4 : decode cX6_worth 4 = .ok (.iload_n 1, 1) := by decide +kernel
theorem dX6_worth_5 : decode cX6_worth 5 = .ok (.ifCond .ne 5, 3) := by decide +kernel
theorem dX6_worth_8 : decode cX6_worth 8 = .ok (.iload_n 2, 1) := by decide +kernel
theorem dX6_worth_9 : decode cX6_worth 9 = .ok (.ireturn, 1) := by decide +kernel
theorem dX6_worth_10 : decode cX6_worth 10 = .ok (.iload_n 1, 1) := by decide +kernel
theorem dX6_worth_11 : decode cX6_worth 11 = .ok (.iload_n 3, 1) := by decide +kernel
theorem dX6_worth_12 : decode cX6_worth 12 = .ok (.if_icmp .gt 25, 3) := by decide +kernel
theorem dX6_worth_15 : decode cX6_worth 15 = .ok (.iload_n 2, 1) := by decide +kernel
theorem dX6_worth_16 : decode cX6_worth 16 = .ok (.iload_n 0, 1) := by decide +kernel
theorem dX6_worth_17 : decode cX6_worth 17 = .ok (.iload_n 1, 1) := by decide +kernel
theorem dX6_worth_18 : decode cX6_worth 18 = .ok (.isub, 1) := by decide +kernel
theorem dX6_worth_19 : decode cX6_worth 19 = .ok (.if_icmp .le 7, 3) := by decide +kernel
theorem dX6_worth_22 : decode cX6_worth 22 = .ok (.iload_n 0, 1) := by decide +kernel
theorem dX6_worth_23 : decode cX6_worth 23 = .ok (.goto 13, 3) := by decide +kernel
theorem dX6_worth_26 : decode cX6_worth 26 = .ok (.iload_n 2, 1) := by decide +kernel
theorem dX6_worth_27 : decode cX6_worth 27 = .ok (.iload_n 1, 1) := by decide +kernel
theorem dX6_worth_28 : decode cX6_worth 28 = .ok (.if_icmp .ge 7, 3) := by decide +kernel
theorem dX6_worth_31 : decode cX6_worth 31 = .ok (.iconst 0, 1) := by decide +kernel
theorem dX6_worth_32 : decode cX6_worth 32 = .ok (.goto 4, 3) := by decide +kernel
theorem dX6_worth_35 : decode cX6_worth 35 = .ok (.iload_n 2, 1) := by decide +kernel
theorem dX6_worth_36 : decode cX6_worth 36 = .ok (.ireturn, 1) := by decide +kernel
theorem dX6_worth_37 : decode cX6_worth 37 = .ok (.iload_n 1, 1) := by decide +kernel
theorem dX6_worth_38 : decode cX6_worth 38 = .ok (.iload_n 3, 1) := by decide +kernel
theorem dX6_worth_39 : decode cX6_worth 39 = .ok (.isub, 1) := by decide +kernel
theorem dX6_worth_40 : decode cX6_worth 40 = .ok (.istore 4, 2) := by decide +kernel
theorem dX6_worth_42 : decode cX6_worth 42 = .ok (.iload_n 0, 1) := by decide +kernel
theorem dX6_worth_43 : decode cX6_worth 43 = .ok (.iload 4, 2) := by decide +kernel
theorem dX6_worth_45 : decode cX6_worth 45 = .ok (.idiv, 1) := by decide +kernel
theorem dX6_worth_46 : decode cX6_worth 46 = .ok (.istore 5, 2) := by decide +kernel
theorem dX6_worth_48 : decode cX6_worth 48 = .ok (.iconst 2, 1) := by decide +kernel
theorem dX6_worth_49 : decode cX6_worth 49 = .ok (.iload_n 2, 1) := by decide +kernel
theorem dX6_worth_50 : decode cX6_worth 50 = .ok (.imul, 1) := by decide +kernel
theorem dX6_worth_51 : decode cX6_worth 51 = .ok (.iload_n 0, 1) := by decide +kernel
theorem dX6_worth_52 : decode cX6_worth 52 = .ok (.if_icmp .ge 12, 3) := by decide +kernel
theorem dX6_worth_55 : decode cX6_worth 55 = .ok (.iconst 2, 1) := by decide +kernel
theorem dX6_worth_56 : decode cX6_worth 56 = .ok (.iload_n 2, 1) := by decide +kernel
theorem dX6_worth_57 : decode cX6_worth 57 = .ok (.iload 4, 2) := by decide +kernel
theorem dX6_worth_59 : decode cX6_worth 59 = .ok (.idiv, 1) := by decide +kernel
theorem dX6_worth_60 : decode cX6_worth 60 = .ok (.imul, 1) := by decide +kernel
theorem dX6_worth_61 : decode cX6_worth 61 = .ok (.goto 26, 3) := by decide +kernel
theorem dX6_worth_64 : decode cX6_worth 64 = .ok (.iconst 2, 1) := by decide +kernel
theorem dX6_worth_65 : decode cX6_worth 65 = .ok (.iload_n 2, 1) := by decide +kernel
theorem dX6_worth_66 : decode cX6_worth 66 = .ok (.imul, 1) := by decide +kernel
theorem dX6_worth_67 : decode cX6_worth 67 = .ok (.iload_n 0, 1) := by decide +kernel
theorem dX6_worth_68 : decode cX6_worth 68 = .ok (.if_icmp .ne 8, 3) := by decide +kernel
theorem dX6_worth_71 : decode cX6_worth 71 = .ok (.iload 5, 2) := by decide +kernel
theorem dX6_worth_73 : decode cX6_worth 73 = .ok (.goto 14, 3) := by decide +kernel
theorem dX6_worth_76 : decode cX6_worth 76 = .ok (.iconst 2, 1) := by decide +kernel
theorem dX6_worth_77 : decode cX6_worth 77 = .ok (.iload 5, 2) := by decide +kernel
theorem dX6_worth_79 : decode cX6_worth 79 = .ok (.iload_n 0, 1) := by decide +kernel
theorem dX6_worth_80 : decode cX6_worth 80 = .ok (.iload_n 2, 1) := by decide +kernel
theorem dX6_worth_81 : decode cX6_worth 81 = .ok (.isub, 1) := by decide +kernel
theorem dX6_worth_82 : decode cX6_worth 82 = .ok (.iload 4, 2) := by decide +kernel
theorem dX6_worth_84 : decode cX6_worth 84 = .ok (.idiv, 1) := by decide +kernel
theorem dX6_worth_85 : decode cX6_worth 85 = .ok (.isub, 1) := by decide +kernel
theorem dX6_worth_86 : decode cX6_worth 86 = .ok (.imul, 1) := by decide +kernel
theorem dX6_worth_87 : decode cX6_worth 87 = .ok (.ireturn, 1) := by decide +kernel
theorem dX6_isDual_0 : decode cX6_isDual 0 = .ok (.iload_n 2, 1) := by decide +kernel
theorem dX6_isDual_1 : decode cX6_isDual 1 = .ok (.ifCond .lt 21, 3) := by decide +kernel
theorem dX6_isDual_4 : decode cX6_isDual 4 = .ok (.iload_n 2, 1) := by decide +kernel
theorem dX6_isDual_5 : decode cX6_isDual 5 = .ok (.aload_n 0, 1) := by decide +kernel
theorem dX6_isDual_6 : decode cX6_isDual 6 = .ok (.getfield 7, 3) := by decide +kernel
theorem dX6_isDual_9 : decode cX6_isDual 9 = .ok (.iload_n 1, 1) := by decide +kernel
theorem dX6_isDual_10 : decode cX6_isDual 10 = .ok (.iaload, 1) := by decide +kernel
theorem dX6_isDual_11 : decode cX6_isDual 11 = .ok (.iconst 2, 1) := by decide +kernel
theorem dX6_isDual_12 : decode cX6_isDual 12 = .ok (.idiv, 1) := by decide +kernel
theorem dX6_isDual_13 : decode cX6_isDual 13 = .ok (.iconst 2, 1) := by decide +kernel
theorem dX6_isDual_14 : decode cX6_isDual 14 = .ok (.imul, 1) := by decide +kernel
theorem dX6_isDual_15 : decode cX6_isDual 15 = .ok (.if_icmp .gt 7, 3) := by decide +kernel
theorem dX6_isDual_18 : decode cX6_isDual 18 = .ok (.iconst 1, 1) := by decide +kernel
theorem dX6_isDual_19 : decode cX6_isDual 19 = .ok (.goto 4, 3) := by decide +kernel
theorem dX6_isDual_22 : decode cX6_isDual 22 = .ok (.iconst 0, 1) := by decide +kernel
theorem dX6_isDual_23 : decode cX6_isDual 23 = .ok (.ireturn, 1) := by decide +kernel
theorem dX6_dual_0 : decode cX6_dual 0 = .ok (.iload_n 1, 1) := by decide +kernel
theorem dX6_dual_1 : decode cX6_dual 1 = .ok (.ifCond .lt 31, 3) := by decide +kernel
theorem dX6_dual_4 : decode cX6_dual 4 = .ok (.iload_n 1, 1) := by decide +kernel
theorem dX6_dual_5 : decode cX6_dual 5 = .ok (.iconst 2, 1) := by decide +kernel
theorem dX6_dual_6 : decode cX6_dual 6 = .ok (.if_icmp .gt 26, 3) := by decide +kernel
theorem dX6_dual_9 : decode cX6_dual 9 = .ok (.aload_n 0, 1) := by decide +kernel
theorem dX6_dual_10 : decode cX6_dual 10 = .ok (.iload_n 1, 1) := by decide +kernel
theorem dX6_dual_11 : decode cX6_dual 11 = .ok (.iload_n 2, 1) := by decide +kernel
theorem dX6_dual_12 : decode cX6_dual 12 = .ok (.invokevirtual 189, 3) := by decide +kernel
theorem dX6_dual_15 : decode cX6_dual 15 = .ok (.ifCond .eq 17, 3) := by decide +kernel
theorem dX6_dual_18 : decode cX6_dual 18 = .ok (.iload_n 3, 1) := by decide +kernel
theorem dX6_dual_19 : decode cX6_dual 19 = .ok (.ifCond .lt 13, 3) := by decide +kernel
theorem dX6_dual_22 : decode cX6_dual 22 = .ok (.iload_n 3, 1) := by decide +kernel
theorem dX6_dual_23 : decode cX6_dual 23 = .ok (.aload_n 0, 1) := by decide +kernel
theorem dX6_dual_24 : decode cX6_dual 24 = .ok (.getfield 7, 3) := by decide +kernel
theorem dX6_dual_27 : decode cX6_dual 27 = .ok (.iload_n 1, 1) := by decide +kernel
theorem dX6_dual_28 : decode cX6_dual 28 = .ok (.iaload, 1) := by decide +kernel
theorem dX6_dual_29 : decode cX6_dual 29 = .ok (.if_icmp .le 7, 3) := by decide +kernel
theorem dX6_dual_32 : decode cX6_dual 32 = .ok (.iconst (-1), 1) := by decide +kernel
theorem dX6_dual_33 : decode cX6_dual 33 = .ok (.goto 14, 3) := by decide +kernel
theorem dX6_dual_36 : decode cX6_dual 36 = .ok (.aload_n 0, 1) := by decide +kernel
theorem dX6_dual_37 : decode cX6_dual 37 = .ok (.getfield 7, 3) := by decide +kernel
theorem dX6_dual_40 : decode cX6_dual 40 = .ok (.iload_n 1, 1) := by decide +kernel
theorem dX6_dual_41 : decode cX6_dual 41 = .ok (.iaload, 1) := by decide +kernel
theorem dX6_dual_42 : decode cX6_dual 42 = .ok (.iload_n 2, 1) := by decide +kernel
theorem dX6_dual_43 : decode cX6_dual 43 = .ok (.iload_n 3, 1) := by decide +kernel
theorem dX6_dual_44 : decode cX6_dual 44 = .ok (.invokestatic 192, 3) := by decide +kernel
theorem dX6_dual_47 : decode cX6_dual 47 = .ok (.ireturn, 1) := by decide +kernel
theorem dX6_has__0 : decode cX6_has_ 0 = .ok (.aload_n 0, 1) := by decide +kernel
theorem dX6_has__1 : decode cX6_has_ 1 = .ok (.getfield 7, 3) := by decide +kernel
theorem dX6_has__4 : decode cX6_has_ 4 = .ok (.iconst 0, 1) := by decide +kernel
theorem dX6_has__5 : decode cX6_has_ 5 = .ok (.iaload, 1) := by decide +kernel
theorem dX6_has__6 : decode cX6_has_ 6 = .ok (.iload_n 1, 1) := by decide +kernel
theorem dX6_has__7 : decode cX6_has_ 7 = .ok (.aload_n 0, 1) := by decide +kernel
theorem dX6_has__8 : decode cX6_has_ 8 = .ok (.getfield 7, 3) := by decide +kernel
theorem dX6_has__11 : decode cX6_has_ 11 = .ok (.iconst 0, 1) := by decide +kernel
theorem dX6_has__12 : decode cX6_has_ 12 = .ok (.iaload, 1) := by decide +kernel
theorem dX6_has__13 : decode cX6_has_ 13 = .ok (.invokestatic 192, 3) := by decide +kernel
theorem dX6_has__16 : decode cX6_has_ 16 = .ok (.i2l, 1) := by decide +kernel
theorem dX6_has__17 : decode cX6_has_ 17 = .ok (.aload_n 0, 1) := by decide +kernel
theorem dX6_has__18 : decode cX6_has_ 18 = .ok (.getfield 7, 3) := by decide +kernel
theorem dX6_has__21 : decode cX6_has_ 21 = .ok (.iconst 1, 1) := by decide +kernel
theorem dX6_has__22 : decode cX6_has_ 22 = .ok (.iaload, 1) := by decide +kernel
theorem dX6_has__23 : decode cX6_has_ 23 = .ok (.iload_n 2, 1) := by decide +kernel
theorem dX6_has__24 : decode cX6_has_ 24 = .ok (.aload_n 0, 1) := by decide +kernel
theorem dX6_has__25 : decode cX6_has_ 25 = .ok (.getfield 7, 3) := by decide +kernel
theorem dX6_has__28 : decode cX6_has_ 28 = .ok (.iconst 1, 1) := by decide +kernel
theorem dX6_has__29 : decode cX6_has_ 29 = .ok (.iaload, 1) := by decide +kernel
theorem dX6_has__30 : decode cX6_has_ 30 = .ok (.invokestatic 192, 3) := by decide +kernel
theorem dX6_has__33 : decode cX6_has_ 33 = .ok (.i2l, 1) := by decide +kernel
theorem dX6_has__34 : decode cX6_has_ 34 = .ok (.lmul, 1) := by decide +kernel
theorem dX6_has__35 : decode cX6_has_ 35 = .ok (.aload_n 0, 1) := by decide +kernel
theorem dX6_has__36 : decode cX6_has_ 36 = .ok (.getfield 7, 3) := by decide +kernel
theorem dX6_has__39 : decode cX6_has_ 39 = .ok (.iconst 2, 1) := by decide +kernel
theorem dX6_has__40 : decode cX6_has_ 40 = .ok (.iaload, 1) := by decide +kernel
theorem dX6_has__41 : decode cX6_has_ 41 = .ok (.iload_n 3, 1) := by decide +kernel
theorem dX6_has__42 : decode cX6_has_ 42 = .ok (.aload_n 0, 1) := by decide +kernel
theorem dX6_has__43 : decode cX6_has_ 43 = .ok (.getfield 7, 3) := by decide +kernel
theorem dX6_has__46 : decode cX6_has_ 46 = .ok (.iconst 2, 1) := by decide +kernel
theorem dX6_has__47 : decode cX6_has_ 47 = .ok (.iaload, 1) := by decide +kernel
theorem dX6_has__48 : decode cX6_has_ 48 = .ok (.invokestatic 192, 3) := by decide +kernel
theorem dX6_has__51 : decode cX6_has_ 51 = .ok (.i2l, 1) := by decide +kernel
theorem dX6_has__52 : decode cX6_has_ 52 = .ok (.lmul, 1) := by decide +kernel
theorem dX6_has__53 : decode cX6_has_ 53 = .ok (.lreturn, 1) := by decide +kernel
theorem dX6_needs_0 : decode cX6_needs 0 = .ok (.lconst 0, 1) := by decide +kernel
theorem dX6_needs_1 : decode cX6_needs 1 = .ok (.lstore 5, 2) := by decide +kernel
theorem dX6_needs_3 : decode cX6_needs 3 = .ok (.iconst 0, 1) := by decide +kernel
theorem dX6_needs_4 : decode cX6_needs 4 = .ok (.istore 7, 2) := by decide +kernel
theorem dX6_needs_6 : decode cX6_needs 6 = .ok (.iload 7, 2) := by decide +kernel
theorem dX6_needs_8 : decode cX6_needs 8 = .ok (.aload_n 0, 1) := by decide +kernel
theorem dX6_needs_9 : decode cX6_needs 9 = .ok (.getfield 81, 3) := by decide +kernel
theorem dX6_needs_12 : decode cX6_needs 12 = .ok (.if_icmp .ge 215, 3) := by decide +kernel
theorem dX6_needs_15 : decode cX6_needs 15 = .ok (.aload_n 0, 1) := by decide +kernel
theorem dX6_needs_16 : decode cX6_needs 16 = .ok (.iload_n 1, 1) := by decide +kernel
theorem dX6_needs_17 : decode cX6_needs 17 = .ok (.iload_n 2, 1) := by decide +kernel
theorem dX6_needs_18 : decode cX6_needs 18 = .ok (.iload_n 3, 1) := by decide +kernel
theorem dX6_needs_19 : decode cX6_needs 19 = .ok (.invokevirtual 195, 3) := by decide +kernel
theorem dX6_needs_22 : decode cX6_needs 22 = .ok (.lconst 1, 1) := by decide +kernel
theorem dX6_needs_23 : decode cX6_needs 23 = .ok (.ladd, 1) := by decide +kernel
theorem dX6_needs_24 : decode cX6_needs 24 = .ok (.lstore 8, 2) := by decide +kernel
theorem dX6_needs_26 : decode cX6_needs 26 = .ok (.iconst 0, 1) := by decide +kernel
theorem dX6_needs_27 : decode cX6_needs 27 = .ok (.istore 10, 2) := by decide +kernel
theorem dX6_needs_29 : decode cX6_needs 29 = .ok (.iconst 0, 1) := by decide +kernel
theorem dX6_needs_30 : decode cX6_needs 30 = .ok (.istore 11, 2) := by decide +kernel
theorem dX6_needs_32 : decode cX6_needs 32 = .ok (.iload 11, 2) := by decide +kernel
theorem dX6_needs_34 : decode cX6_needs 34 = .ok (.bipush 6, 2) := by decide +kernel
theorem dX6_needs_36 : decode cX6_needs 36 = .ok (.if_icmp .ge 163, 3) := by decide +kernel
theorem dX6_needs_39 : decode cX6_needs 39 = .ok (.aload_n 0, 1) := by decide +kernel
theorem dX6_needs_40 : decode cX6_needs 40 = .ok (.iload 7, 2) := by decide +kernel
theorem dX6_needs_42 : decode cX6_needs 42 = .ok (.iload 11, 2) := by decide +kernel
theorem dX6_needs_44 : decode cX6_needs 44 = .ok (.invokevirtual 118, 3) := by decide +kernel
theorem dX6_needs_47 : decode cX6_needs 47 = .ok (.ifCond .eq 146, 3) := by decide +kernel
theorem dX6_needs_50 : decode cX6_needs 50 = .ok (.aload_n 0, 1) := by decide +kernel
theorem dX6_needs_51 : decode cX6_needs 51 = .ok (.iload 7, 2) := by decide +kernel
theorem dX6_needs_53 : decode cX6_needs 53 = .ok (.iload 11, 2) := by decide +kernel
theorem dX6_needs_55 : decode cX6_needs 55 = .ok (.iconst 0, 1) := by decide +kernel
theorem dX6_needs_56 : decode cX6_needs 56 = .ok (.invokevirtual 121, 3) := by decide +kernel
theorem dX6_needs_59 : decode cX6_needs 59 = .ok (.aload_n 0, 1) := by decide +kernel
theorem dX6_needs_60 : decode cX6_needs 60 = .ok (.getfield 7, 3) := by decide +kernel
theorem dX6_needs_63 : decode cX6_needs 63 = .ok (.iconst 0, 1) := by decide +kernel
theorem dX6_needs_64 : decode cX6_needs 64 = .ok (.iaload, 1) := by decide +kernel
theorem dX6_needs_65 : decode cX6_needs 65 = .ok (.if_icmp .gt 128, 3) := by decide +kernel
theorem dX6_needs_68 : decode cX6_needs 68 = .ok (.aload_n 0, 1) := by decide +kernel
theorem dX6_needs_69 : decode cX6_needs 69 = .ok (.iload 7, 2) := by decide +kernel
theorem dX6_needs_71 : decode cX6_needs 71 = .ok (.iload 11, 2) := by decide +kernel
theorem dX6_needs_73 : decode cX6_needs 73 = .ok (.iconst 1, 1) := by decide +kernel
theorem dX6_needs_74 : decode cX6_needs 74 = .ok (.invokevirtual 121, 3) := by decide +kernel
theorem dX6_needs_77 : decode cX6_needs 77 = .ok (.aload_n 0, 1) := by decide +kernel
theorem dX6_needs_78 : decode cX6_needs 78 = .ok (.getfield 7, 3) := by decide +kernel
theorem dX6_needs_81 : decode cX6_needs 81 = .ok (.iconst 1, 1) := by decide +kernel
theorem dX6_needs_82 : decode cX6_needs 82 = .ok (.iaload, 1) := by decide +kernel
theorem dX6_needs_83 : decode cX6_needs 83 = .ok (.if_icmp .gt 110, 3) := by decide +kernel
theorem dX6_needs_86 : decode cX6_needs 86 = .ok (.aload_n 0, 1) := by decide +kernel
theorem dX6_needs_87 : decode cX6_needs 87 = .ok (.iload 7, 2) := by decide +kernel
theorem dX6_needs_89 : decode cX6_needs 89 = .ok (.iload 11, 2) := by decide +kernel
theorem dX6_needs_91 : decode cX6_needs 91 = .ok (.iconst 2, 1) := by decide +kernel
theorem dX6_needs_92 : decode cX6_needs 92 = .ok (.invokevirtual 121, 3) := by decide +kernel
theorem dX6_needs_95 : decode cX6_needs 95 = .ok (.aload_n 0, 1) := by decide +kernel
theorem dX6_needs_96 : decode cX6_needs 96 = .ok (.getfield 7, 3) := by decide +kernel
theorem dX6_needs_99 : decode cX6_needs 99 = .ok (.iconst 2, 1) := by decide +kernel
theorem dX6_needs_100 : decode cX6_needs 100 = .ok (.iaload, 1) := by decide +kernel
theorem dX6_needs_101 : decode cX6_needs 101 = .ok (.if_icmp .gt 92, 3) := by decide +kernel
theorem dX6_needs_104 : decode cX6_needs 104 = .ok (.aload_n 0, 1) := by decide +kernel
theorem dX6_needs_105 : decode cX6_needs 105 = .ok (.getfield 7, 3) := by decide +kernel
theorem dX6_needs_108 : decode cX6_needs 108 = .ok (.iconst 0, 1) := by decide +kernel
theorem dX6_needs_109 : decode cX6_needs 109 = .ok (.iaload, 1) := by decide +kernel
theorem dX6_needs_110 : decode cX6_needs 110 = .ok (.iload_n 1, 1) := by decide +kernel
theorem dX6_needs_111 : decode cX6_needs 111 = .ok (.aload_n 0, 1) := by decide +kernel
theorem dX6_needs_112 : decode cX6_needs 112 = .ok (.iload 7, 2) := by decide +kernel
theorem dX6_needs_114 : decode cX6_needs 114 = .ok (.iload 11, 2) := by decide +kernel
theorem dX6_needs_116 : decode cX6_needs 116 = .ok (.iconst 0, 1) := by decide +kernel
theorem dX6_needs_117 : decode cX6_needs 117 = .ok (.invokevirtual 121, 3) := by decide +kernel
theorem dX6_needs_120 : decode cX6_needs 120 = .ok (.invokestatic 192, 3) := by decide +kernel
theorem dX6_needs_123 : decode cX6_needs 123 = .ok (.i2l, 1) := by decide +kernel
theorem dX6_needs_124 : decode cX6_needs 124 = .ok (.aload_n 0, 1) := by decide +kernel
theorem dX6_needs_125 : decode cX6_needs 125 = .ok (.getfield 7, 3) := by decide +kernel
theorem dX6_needs_128 : decode cX6_needs 128 = .ok (.iconst 1, 1) := by decide +kernel
theorem dX6_needs_129 : decode cX6_needs 129 = .ok (.iaload, 1) := by decide +kernel
theorem dX6_needs_130 : decode cX6_needs 130 = .ok (.iload_n 2, 1) := by decide +kernel
theorem dX6_needs_131 : decode cX6_needs 131 = .ok (.aload_n 0, 1) := by decide +kernel
theorem dX6_needs_132 : decode cX6_needs 132 = .ok (.iload 7, 2) := by decide +kernel
theorem dX6_needs_134 : decode cX6_needs 134 = .ok (.iload 11, 2) := by decide +kernel
theorem dX6_needs_136 : decode cX6_needs 136 = .ok (.iconst 1, 1) := by decide +kernel
theorem dX6_needs_137 : decode cX6_needs 137 = .ok (.invokevirtual 121, 3) := by decide +kernel
theorem dX6_needs_140 : decode cX6_needs 140 = .ok (.invokestatic 192, 3) := by decide +kernel
theorem dX6_needs_143 : decode cX6_needs 143 = .ok (.i2l, 1) := by decide +kernel
theorem dX6_needs_144 : decode cX6_needs 144 = .ok (.lmul, 1) := by decide +kernel
theorem dX6_needs_145 : decode cX6_needs 145 = .ok (.aload_n 0, 1) := by decide +kernel
theorem dX6_needs_146 : decode cX6_needs 146 = .ok (.getfield 7, 3) := by decide +kernel
theorem dX6_needs_149 : decode cX6_needs 149 = .ok (.iconst 2, 1) := by decide +kernel
theorem dX6_needs_150 : decode cX6_needs 150 = .ok (.iaload, 1) := by decide +kernel
theorem dX6_needs_151 : decode cX6_needs 151 = .ok (.iload_n 3, 1) := by decide +kernel
theorem dX6_needs_152 : decode cX6_needs 152 = .ok (.aload_n 0, 1) := by decide +kernel
theorem dX6_needs_153 : decode cX6_needs 153 = .ok (.iload 7, 2) := by decide +kernel
theorem dX6_needs_155 : decode cX6_needs 155 = .ok (.iload 11, 2) := by decide +kernel
theorem dX6_needs_157 : decode cX6_needs 157 = .ok (.iconst 2, 1) := by decide +kernel
theorem dX6_needs_158 : decode cX6_needs 158 = .ok (.invokevirtual 121, 3) := by decide +kernel
theorem dX6_needs_161 : decode cX6_needs 161 = .ok (.invokestatic 192, 3) := by decide +kernel
theorem dX6_needs_164 : decode cX6_needs 164 = .ok (.i2l, 1) := by decide +kernel
theorem dX6_needs_165 : decode cX6_needs 165 = .ok (.lmul, 1) := by decide +kernel
theorem dX6_needs_166 : decode cX6_needs 166 = .ok (.lstore 12, 2) := by decide +kernel
theorem dX6_needs_168 : decode cX6_needs 168 = .ok (.iload 10, 2) := by decide +kernel
theorem dX6_needs_170 : decode cX6_needs 170 = .ok (.ifCond .eq 16, 3) := by decide +kernel
theorem dX6_needs_173 : decode cX6_needs 173 = .ok (.lload 8, 2) := by decide +kernel
theorem dX6_needs_175 : decode cX6_needs 175 = .ok (.lload 12, 2) := by decide +kernel
theorem dX6_needs_177 : decode cX6_needs 177 = .ok (.lcmp, 1) := by decide +kernel
theorem dX6_needs_178 : decode cX6_needs 178 = .ok (.ifCond .ge 8, 3) := by decide +kernel
theorem dX6_needs_181 : decode cX6_needs 181 = .ok (.lload 8, 2) := by decide +kernel
theorem dX6_needs_183 : decode cX6_needs 183 = .ok (.goto 5, 3) := by decide +kernel
theorem dX6_needs_186 : decode cX6_needs 186 = .ok (.lload 12, 2) := by decide +kernel
theorem dX6_needs_188 : decode cX6_needs 188 = .ok (.lstore 8, 2) := by decide +kernel
theorem dX6_needs_190 : decode cX6_needs 190 = .ok (.iconst 1, 1) := by decide +kernel
theorem dX6_needs_191 : decode cX6_needs 191 = .ok (.istore 10, 2) := by decide +kernel
theorem dX6_needs_193 : decode cX6_needs 193 = .ok (.iinc 11 1, 3) := by decide +kernel
theorem dX6_needs_196 : decode cX6_needs 196 = .ok (.goto (-164), 3) := by decide +kernel
theorem dX6_needs_199 : decode cX6_needs 199 = .ok (.lload 5, 2) := by decide +kernel
theorem dX6_needs_201 : decode cX6_needs 201 = .ok (.iload 4, 2) := by decide +kernel
theorem dX6_needs_203 : decode cX6_needs 203 = .ok (.iload 7, 2) := by decide +kernel
theorem dX6_needs_205 : decode cX6_needs 205 = .ok (.ishr, 1) := by decide +kernel
theorem dX6_needs_206 : decode cX6_needs 206 = .ok (.iconst 1, 1) := by decide +kernel
theorem dX6_needs_207 : decode cX6_needs 207 = .ok (.iand, 1) := by decide +kernel
theorem dX6_needs_208 : decode cX6_needs 208 = .ok (.iconst 1, 1) := by decide +kernel
theorem dX6_needs_209 : decode cX6_needs 209 = .ok (.if_icmp .ne 8, 3) := by decide +kernel
theorem dX6_needs_212 : decode cX6_needs 212 = .ok (.lload 8, 2) := by decide +kernel
theorem dX6_needs_214 : decode cX6_needs 214 = .ok (.goto 4, 3) := by decide +kernel
theorem dX6_needs_217 : decode cX6_needs 217 = .ok (.lconst 0, 1) := by decide +kernel
theorem dX6_needs_218 : decode cX6_needs 218 = .ok (.ladd, 1) := by decide +kernel
theorem dX6_needs_219 : decode cX6_needs 219 = .ok (.lstore 5, 2) := by decide +kernel
theorem dX6_needs_221 : decode cX6_needs 221 = .ok (.iinc 7 1, 3) := by decide +kernel
theorem dX6_needs_224 : decode cX6_needs 224 = .ok (.goto (-218), 3) := by decide +kernel
theorem dX6_needs_227 : decode cX6_needs 227 = .ok (.lload 5, 2) := by decide +kernel
theorem dX6_needs_229 : decode cX6_needs 229 = .ok (.lreturn, 1) := by decide +kernel
theorem dX6_need_0 : decode cX6_need 0 = .ok (.aload_n 0, 1) := by decide +kernel
theorem dX6_need_1 : decode cX6_need 1 = .ok (.iconst 0, 1) := by decide +kernel
theorem dX6_need_2 : decode cX6_need 2 = .ok (.iload_n 1, 1) := by decide +kernel
theorem dX6_need_3 : decode cX6_need 3 = .ok (.invokevirtual 189, 3) := by decide +kernel
theorem dX6_need_6 : decode cX6_need 6 = .ok (.ifCond .eq 32, 3) := by decide +kernel
theorem dX6_need_9 : decode cX6_need 9 = .ok (.aload_n 0, 1) := by decide +kernel
theorem dX6_need_10 : decode cX6_need 10 = .ok (.iconst 1, 1) := by decide +kernel
theorem dX6_need_11 : decode cX6_need 11 = .ok (.iload_n 2, 1) := by decide +kernel
theorem dX6_need_12 : decode cX6_need 12 = .ok (.invokevirtual 189, 3) := by decide +kernel
theorem dX6_need_15 : decode cX6_need 15 = .ok (.ifCond .eq 23, 3) := by decide +kernel
theorem dX6_need_18 : decode cX6_need 18 = .ok (.aload_n 0, 1) := by decide +kernel
theorem dX6_need_19 : decode cX6_need 19 = .ok (.iconst 2, 1) := by decide +kernel
theorem dX6_need_20 : decode cX6_need 20 = .ok (.iload_n 3, 1) := by decide +kernel
theorem dX6_need_21 : decode cX6_need 21 = .ok (.invokevirtual 189, 3) := by decide +kernel
theorem dX6_need_24 : decode cX6_need 24 = .ok (.ifCond .eq 14, 3) := by decide +kernel
theorem dX6_need_27 : decode cX6_need 27 = .ok (.iload 4, 2) := by decide +kernel
theorem dX6_need_29 : decode cX6_need 29 = .ok (.ifCond .lt 9, 3) := by decide +kernel
theorem dX6_need_32 : decode cX6_need 32 = .ok (.iload 4, 2) := by decide +kernel
theorem dX6_need_34 : decode cX6_need 34 = .ok (.iconst 1, 1) := by decide +kernel
theorem dX6_need_35 : decode cX6_need 35 = .ok (.if_icmp .le 7, 3) := by decide +kernel
theorem dX6_need_38 : decode cX6_need 38 = .ok (.ldc2_w 198, 3) := by decide +kernel
theorem dX6_need_41 : decode cX6_need 41 = .ok (.lreturn, 1) := by decide +kernel
theorem dX6_need_42 : decode cX6_need 42 = .ok (.iload 4, 2) := by decide +kernel
theorem dX6_need_44 : decode cX6_need 44 = .ok (.iconst 1, 1) := by decide +kernel
theorem dX6_need_45 : decode cX6_need 45 = .ok (.if_icmp .ne 13, 3) := by decide +kernel
theorem dX6_need_48 : decode cX6_need 48 = .ok (.aload_n 0, 1) := by decide +kernel
theorem dX6_need_49 : decode cX6_need 49 = .ok (.iload_n 1, 1) := by decide +kernel
theorem dX6_need_50 : decode cX6_need 50 = .ok (.iload_n 2, 1) := by decide +kernel
theorem dX6_need_51 : decode cX6_need 51 = .ok (.iload_n 3, 1) := by decide +kernel
theorem dX6_need_52 : decode cX6_need 52 = .ok (.invokevirtual 195, 3) := by decide +kernel
theorem dX6_need_55 : decode cX6_need 55 = .ok (.goto 13, 3) := by decide +kernel
theorem dX6_need_58 : decode cX6_need 58 = .ok (.aload_n 0, 1) := by decide +kernel
theorem dX6_need_59 : decode cX6_need 59 = .ok (.iload_n 1, 1) := by decide +kernel
theorem dX6_need_60 : decode cX6_need 60 = .ok (.iload_n 2, 1) := by decide +kernel
theorem dX6_need_61 : decode cX6_need 61 = .ok (.iload_n 3, 1) := by decide +kernel
theorem dX6_need_62 : decode cX6_need 62 = .ok (.sipush 255, 3) := by decide +kernel
theorem dX6_need_65 : decode cX6_need 65 = .ok (.invokevirtual 200, 3) := by decide +kernel
theorem dX6_need_68 : decode cX6_need 68 = .ok (.lreturn, 1) := by decide +kernel
theorem dX6_prove_0 : decode cX6_prove 0 = .ok (.aload_n 0, 1) := by decide +kernel
theorem dX6_prove_1 : decode cX6_prove 1 = .ok (.iconst 1, 1) := by decide +kernel
theorem dX6_prove_2 : decode cX6_prove 2 = .ok (.putfield 114, 3) := by decide +kernel
theorem dX6_prove_5 : decode cX6_prove 5 = .ok (.iconst 0, 1) := by decide +kernel
theorem dX6_prove_6 : decode cX6_prove 6 = .ok (.istore_n 1, 1) := by decide +kernel
theorem dX6_prove_7 : decode cX6_prove 7 = .ok (.iload_n 1, 1) := by decide +kernel
theorem dX6_prove_8 : decode cX6_prove 8 = .ok (.iconst 4, 1) := by decide +kernel
theorem dX6_prove_9 : decode cX6_prove 9 = .ok (.if_icmp .ge 17, 3) := by decide +kernel
theorem dX6_prove_12 : decode cX6_prove 12 = .ok (.aload_n 0, 1) := by decide +kernel
theorem dX6_prove_13 : decode cX6_prove 13 = .ok (.getfield 71, 3) := by decide +kernel
theorem dX6_prove_16 : decode cX6_prove 16 = .ok (.iload_n 1, 1) := by decide +kernel
theorem dX6_prove_17 : decode cX6_prove 17 = .ok (.bipush (-9), 2) := by decide +kernel
theorem dX6_prove_19 : decode cX6_prove 19 = .ok (.iastore, 1) := by decide +kernel
theorem dX6_prove_20 : decode cX6_prove 20 = .ok (.iinc 1 1, 3) := by decide +kernel
theorem dX6_prove_23 : decode cX6_prove 23 = .ok (.goto (-16), 3) := by decide +kernel
theorem dX6_prove_26 : decode cX6_prove 26 = .ok (.iconst 0, 1) := by decide +kernel
theorem dX6_prove_27 : decode cX6_prove 27 = .ok (.istore_n 1, 1) := by decide +kernel
theorem dX6_prove_28 : decode cX6_prove 28 = .ok (.aload_n 0, 1) := by decide +kernel
theorem dX6_prove_29 : decode cX6_prove 29 = .ok (.iconst 0, 1) := by decide +kernel
theorem dX6_prove_30 : decode cX6_prove 30 = .ok (.iload_n 1, 1) := by decide +kernel
theorem dX6_prove_31 : decode cX6_prove 31 = .ok (.invokevirtual 189, 3) := by decide +kernel
theorem dX6_prove_34 : decode cX6_prove 34 = .ok (.ifCond .eq 165, 3) := by decide +kernel
theorem dX6_prove_37 : decode cX6_prove 37 = .ok (.iconst 0, 1) := by decide +kernel
theorem dX6_prove_38 : decode cX6_prove 38 = .ok (.istore_n 2, 1) := by decide +kernel
theorem dX6_prove_39 : decode cX6_prove 39 = .ok (.aload_n 0, 1) := by decide +kernel
theorem dX6_prove_40 : decode cX6_prove 40 = .ok (.iconst 1, 1) := by decide +kernel
theorem dX6_prove_41 : decode cX6_prove 41 = .ok (.iload_n 2, 1) := by decide +kernel
theorem dX6_prove_42 : decode cX6_prove 42 = .ok (.invokevirtual 189, 3) := by decide +kernel
theorem dX6_prove_45 : decode cX6_prove 45 = .ok (.ifCond .eq 148, 3) := by decide +kernel
theorem dX6_prove_48 : decode cX6_prove 48 = .ok (.iconst 0, 1) := by decide +kernel
theorem dX6_prove_49 : decode cX6_prove 49 = .ok (.istore_n 3, 1) := by decide +kernel
theorem dX6_prove_50 : decode cX6_prove 50 = .ok (.aload_n 0, 1) := by decide +kernel
theorem dX6_prove_51 : decode cX6_prove 51 = .ok (.iconst 2, 1) := by decide +kernel
theorem dX6_prove_52 : decode cX6_prove 52 = .ok (.iload_n 3, 1) := by decide +kernel
theorem dX6_prove_53 : decode cX6_prove 53 = .ok (.invokevirtual 189, 3) := by decide +kernel
theorem dX6_prove_56 : decode cX6_prove 56 = .ok (.ifCond .eq 131, 3) := by decide +kernel
theorem dX6_prove_59 : decode cX6_prove 59 = .ok (.aload_n 0, 1) := by decide +kernel
theorem dX6_prove_60 : decode cX6_prove 60 = .ok (.iload_n 1, 1) := by decide +kernel
theorem dX6_prove_61 : decode cX6_prove 61 = .ok (.iload_n 2, 1) := by decide +kernel
theorem dX6_prove_62 : decode cX6_prove 62 = .ok (.iload_n 3, 1) := by decide +kernel
theorem dX6_prove_63 : decode cX6_prove 63 = .ok (.sipush 255, 3) := by decide +kernel
theorem dX6_prove_66 : decode cX6_prove 66 = .ok (.invokevirtual 200, 3) := by decide +kernel
theorem dX6_prove_69 : decode cX6_prove 69 = .ok (.aload_n 0, 1) := by decide +kernel
theorem dX6_prove_70 : decode cX6_prove 70 = .ok (.iload_n 1, 1) := by decide +kernel
theorem dX6_prove_71 : decode cX6_prove 71 = .ok (.iload_n 2, 1) := by decide +kernel
theorem dX6_prove_72 : decode cX6_prove 72 = .ok (.iload_n 3, 1) := by decide +kernel
theorem dX6_prove_73 : decode cX6_prove 73 = .ok (.invokevirtual 195, 3) := by decide +kernel
theorem dX6_prove_76 : decode cX6_prove 76 = .ok (.lcmp, 1) := by decide +kernel
theorem dX6_prove_77 : decode cX6_prove 77 = .ok (.ifCond .le 104, 3) := by decide +kernel
theorem dX6_prove_80 : decode cX6_prove 80 = .ok (.aload_n 0, 1) := by decide +kernel
theorem dX6_prove_81 : decode cX6_prove 81 = .ok (.getfield 71, 3) := by decide +kernel
theorem dX6_prove_84 : decode cX6_prove 84 = .ok (.iconst 0, 1) := by decide +kernel
theorem dX6_prove_85 : decode cX6_prove 85 = .ok (.iload_n 1, 1) := by decide +kernel
theorem dX6_prove_86 : decode cX6_prove 86 = .ok (.iastore, 1) := by decide +kernel
theorem dX6_prove_87 : decode cX6_prove 87 = .ok (.aload_n 0, 1) := by decide +kernel
theorem dX6_prove_88 : decode cX6_prove 88 = .ok (.getfield 71, 3) := by decide +kernel
theorem dX6_prove_91 : decode cX6_prove 91 = .ok (.iconst 1, 1) := by decide +kernel
theorem dX6_prove_92 : decode cX6_prove 92 = .ok (.iload_n 2, 1) := by decide +kernel
theorem dX6_prove_93 : decode cX6_prove 93 = .ok (.iastore, 1) := by decide +kernel
theorem dX6_prove_94 : decode cX6_prove 94 = .ok (.aload_n 0, 1) := by decide +kernel
theorem dX6_prove_95 : decode cX6_prove 95 = .ok (.getfield 71, 3) := by decide +kernel
theorem dX6_prove_98 : decode cX6_prove 98 = .ok (.iconst 2, 1) := by decide +kernel
theorem dX6_prove_99 : decode cX6_prove 99 = .ok (.iload_n 3, 1) := by decide +kernel
theorem dX6_prove_100 : decode cX6_prove 100 = .ok (.iastore, 1) := by decide +kernel
theorem dX6_prove_101 : decode cX6_prove 101 = .ok (.iconst 1, 1) := by decide +kernel
theorem dX6_prove_102 : decode cX6_prove 102 = .ok (.aload_n 0, 1) := by decide +kernel
theorem dX6_prove_103 : decode cX6_prove 103 = .ok (.getfield 81, 3) := by decide +kernel
theorem dX6_prove_106 : decode cX6_prove 106 = .ok (.ishl, 1) := by decide +kernel
theorem dX6_prove_107 : decode cX6_prove 107 = .ok (.iconst 1, 1) := by decide +kernel
theorem dX6_prove_108 : decode cX6_prove 108 = .ok (.isub, 1) := by decide +kernel
theorem dX6_prove_109 : decode cX6_prove 109 = .ok (.istore 4, 2) := by decide +kernel
theorem dX6_prove_111 : decode cX6_prove 111 = .ok (.iconst 0, 1) := by decide +kernel
theorem dX6_prove_112 : decode cX6_prove 112 = .ok (.istore 5, 2) := by decide +kernel
theorem dX6_prove_114 : decode cX6_prove 114 = .ok (.iload 5, 2) := by decide +kernel
theorem dX6_prove_116 : decode cX6_prove 116 = .ok (.aload_n 0, 1) := by decide +kernel
theorem dX6_prove_117 : decode cX6_prove 117 = .ok (.getfield 81, 3) := by decide +kernel
theorem dX6_prove_120 : decode cX6_prove 120 = .ok (.if_icmp .ge 52, 3) := by decide +kernel
theorem dX6_prove_123 : decode cX6_prove 123 = .ok (.aload_n 0, 1) := by decide +kernel
theorem dX6_prove_124 : decode cX6_prove 124 = .ok (.iload_n 1, 1) := by decide +kernel
theorem dX6_prove_125 : decode cX6_prove 125 = .ok (.iload_n 2, 1) := by decide +kernel
theorem dX6_prove_126 : decode cX6_prove 126 = .ok (.iload_n 3, 1) := by decide +kernel
theorem dX6_prove_127 : decode cX6_prove 127 = .ok (.iload 4, 2) := by decide +kernel
theorem dX6_prove_129 : decode cX6_prove 129 = .ok (.iconst 1, 1) := by decide +kernel
theorem dX6_prove_130 : decode cX6_prove 130 = .ok (.iload 5, 2) := by decide +kernel
theorem dX6_prove_132 : decode cX6_prove 132 = .ok (.ishl, 1) := by decide +kernel
theorem dX6_prove_133 : decode cX6_prove 133 = .ok (.iconst (-1), 1) := by decide +kernel
theorem dX6_prove_134 : decode cX6_prove 134 = .ok (.ixor, 1) := by decide +kernel
theorem dX6_prove_135 : decode cX6_prove 135 = .ok (.iand, 1) := by decide +kernel
theorem dX6_prove_136 : decode cX6_prove 136 = .ok (.invokevirtual 200, 3) := by decide +kernel
theorem dX6_prove_139 : decode cX6_prove 139 = .ok (.aload_n 0, 1) := by decide +kernel
theorem dX6_prove_140 : decode cX6_prove 140 = .ok (.iload_n 1, 1) := by decide +kernel
theorem dX6_prove_141 : decode cX6_prove 141 = .ok (.iload_n 2, 1) := by decide +kernel
theorem dX6_prove_142 : decode cX6_prove 142 = .ok (.iload_n 3, 1) := by decide +kernel
theorem dX6_prove_143 : decode cX6_prove 143 = .ok (.invokevirtual 195, 3) := by decide +kernel
theorem dX6_prove_146 : decode cX6_prove 146 = .ok (.lcmp, 1) := by decide +kernel
theorem dX6_prove_147 : decode cX6_prove 147 = .ok (.ifCond .le 15, 3) := by decide +kernel
theorem dX6_prove_150 : decode cX6_prove 150 = .ok (.iload 4, 2) := by decide +kernel
theorem dX6_prove_152 : decode cX6_prove 152 = .ok (.iconst 1, 1) := by decide +kernel
theorem dX6_prove_153 : decode cX6_prove 153 = .ok (.iload 5, 2) := by decide +kernel
theorem dX6_prove_155 : decode cX6_prove 155 = .ok (.ishl, 1) := by decide +kernel
theorem dX6_prove_156 : decode cX6_prove 156 = .ok (.iconst (-1), 1) := by decide +kernel
theorem dX6_prove_157 : decode cX6_prove 157 = .ok (.ixor, 1) := by decide +kernel
theorem dX6_prove_158 : decode cX6_prove 158 = .ok (.iand, 1) := by decide +kernel
theorem dX6_prove_159 : decode cX6_prove 159 = .ok (.goto 5, 3) := by decide +kernel
theorem dX6_prove_162 : decode cX6_prove 162 = .ok (.iload 4, 2) := by decide +kernel
theorem dX6_prove_164 : decode cX6_prove 164 = .ok (.istore 4, 2) := by decide +kernel
theorem dX6_prove_166 : decode cX6_prove 166 = .ok (.iinc 5 1, 3) := by decide +kernel
theorem dX6_prove_169 : decode cX6_prove 169 = .ok (.goto (-55), 3) := by decide +kernel
theorem dX6_prove_172 : decode cX6_prove 172 = .ok (.aload_n 0, 1) := by decide +kernel
theorem dX6_prove_173 : decode cX6_prove 173 = .ok (.getfield 71, 3) := by decide +kernel
theorem dX6_prove_176 : decode cX6_prove 176 = .ok (.iconst 3, 1) := by decide +kernel
theorem dX6_prove_177 : decode cX6_prove 177 = .ok (.iload 4, 2) := by decide +kernel
theorem dX6_prove_179 : decode cX6_prove 179 = .ok (.iastore, 1) := by decide +kernel
theorem dX6_prove_180 : decode cX6_prove 180 = .ok (.return_, 1) := by decide +kernel
theorem dX6_prove_181 : decode cX6_prove 181 = .ok (.iinc 3 1, 3) := by decide +kernel
theorem dX6_prove_184 : decode cX6_prove 184 = .ok (.goto (-134), 3) := by decide +kernel
theorem dX6_prove_187 : decode cX6_prove 187 = .ok (.iinc 2 1, 3) := by decide +kernel
theorem dX6_prove_190 : decode cX6_prove 190 = .ok (.goto (-151), 3) := by decide +kernel
theorem dX6_prove_193 : decode cX6_prove 193 = .ok (.iinc 1 1, 3) := by decide +kernel
theorem dX6_prove_196 : decode cX6_prove 196 = .ok (.goto (-168), 3) := by decide +kernel
theorem dX6_prove_199 : decode cX6_prove 199 = .ok (.return_, 1) := by decide +kernel
theorem dX6_proof_0 : decode cX6_proof 0 = .ok (.iload_n 1, 1) := by decide +kernel
theorem dX6_proof_1 : decode cX6_proof 1 = .ok (.ifCond .lt 8, 3) := by decide +kernel
theorem dX6_proof_4 : decode cX6_proof 4 = .ok (.iload_n 1, 1) := by decide +kernel
theorem dX6_proof_5 : decode cX6_proof 5 = .ok (.iconst 3, 1) := by decide +kernel
theorem dX6_proof_6 : decode cX6_proof 6 = .ok (.if_icmp .le 5, 3) := by decide +kernel
theorem dX6_proof_9 : decode cX6_proof 9 = .ok (.iconst (-1), 1) := by decide +kernel
theorem dX6_proof_10 : decode cX6_proof 10 = .ok (.ireturn, 1) := by decide +kernel
theorem dX6_proof_11 : decode cX6_proof 11 = .ok (.aload_n 0, 1) := by decide +kernel
theorem dX6_proof_12 : decode cX6_proof 12 = .ok (.getfield 114, 3) := by decide +kernel
theorem dX6_proof_15 : decode cX6_proof 15 = .ok (.ifCond .ne 7, 3) := by decide +kernel
theorem dX6_proof_18 : decode cX6_proof 18 = .ok (.aload_n 0, 1) := by decide +kernel
theorem dX6_proof_19 : decode cX6_proof 19 = .ok (.invokevirtual 204, 3) := by decide +kernel
theorem dX6_proof_22 : decode cX6_proof 22 = .ok (.aload_n 0, 1) := by decide +kernel
theorem dX6_proof_23 : decode cX6_proof 23 = .ok (.getfield 71, 3) := by decide +kernel
theorem dX6_proof_26 : decode cX6_proof 26 = .ok (.iload_n 1, 1) := by decide +kernel
theorem dX6_proof_27 : decode cX6_proof 27 = .ok (.iaload, 1) := by decide +kernel
theorem dX6_proof_28 : decode cX6_proof 28 = .ok (.ireturn, 1) := by decide +kernel
theorem dX6_none_0 : decode cX6_none 0 = .ok (.aload_n 0, 1) := by decide +kernel
theorem dX6_none_1 : decode cX6_none 1 = .ok (.iload_n 1, 1) := by decide +kernel
theorem dX6_none_2 : decode cX6_none 2 = .ok (.iload_n 2, 1) := by decide +kernel
theorem dX6_none_3 : decode cX6_none 3 = .ok (.iload_n 3, 1) := by decide +kernel
theorem dX6_none_4 : decode cX6_none 4 = .ok (.iload 4, 2) := by decide +kernel
theorem dX6_none_6 : decode cX6_none 6 = .ok (.iload 5, 2) := by decide +kernel
theorem dX6_none_8 : decode cX6_none 8 = .ok (.invokevirtual 154, 3) := by decide +kernel
theorem dX6_none_11 : decode cX6_none 11 = .ok (.ifCond .ne 5, 3) := by decide +kernel
theorem dX6_none_14 : decode cX6_none 14 = .ok (.iconst (-1), 1) := by decide +kernel
theorem dX6_none_15 : decode cX6_none 15 = .ok (.ireturn, 1) := by decide +kernel
theorem dX6_none_16 : decode cX6_none 16 = .ok (.iconst 0, 1) := by decide +kernel
theorem dX6_none_17 : decode cX6_none 17 = .ok (.istore 6, 2) := by decide +kernel
theorem dX6_none_19 : decode cX6_none 19 = .ok (.iconst 0, 1) := by decide +kernel
theorem dX6_none_20 : decode cX6_none 20 = .ok (.istore 7, 2) := by decide +kernel
theorem dX6_none_22 : decode cX6_none 22 = .ok (.iload 7, 2) := by decide +kernel
theorem dX6_none_24 : decode cX6_none 24 = .ok (.aload_n 0, 1) := by decide +kernel
theorem dX6_none_25 : decode cX6_none 25 = .ok (.getfield 81, 3) := by decide +kernel
theorem dX6_none_28 : decode cX6_none 28 = .ok (.if_icmp .ge 43, 3) := by decide +kernel
theorem dX6_none_31 : decode cX6_none 31 = .ok (.iload 6, 2) := by decide +kernel
theorem dX6_none_33 : decode cX6_none 33 = .ok (.ifCond .ne 25, 3) := by decide +kernel
theorem dX6_none_36 : decode cX6_none 36 = .ok (.iload 7, 2) := by decide +kernel
theorem dX6_none_38 : decode cX6_none 38 = .ok (.iload_n 1, 1) := by decide +kernel
theorem dX6_none_39 : decode cX6_none 39 = .ok (.if_icmp .eq 23, 3) := by decide +kernel
theorem dX6_none_42 : decode cX6_none 42 = .ok (.aload_n 0, 1) := by decide +kernel
theorem dX6_none_43 : decode cX6_none 43 = .ok (.iload 7, 2) := by decide +kernel
theorem dX6_none_45 : decode cX6_none 45 = .ok (.iload_n 1, 1) := by decide +kernel
theorem dX6_none_46 : decode cX6_none 46 = .ok (.iload_n 2, 1) := by decide +kernel
theorem dX6_none_47 : decode cX6_none 47 = .ok (.iload_n 3, 1) := by decide +kernel
theorem dX6_none_48 : decode cX6_none 48 = .ok (.iload 4, 2) := by decide +kernel
theorem dX6_none_50 : decode cX6_none 50 = .ok (.iload 5, 2) := by decide +kernel
theorem dX6_none_52 : decode cX6_none 52 = .ok (.invokevirtual 207, 3) := by decide +kernel
theorem dX6_none_55 : decode cX6_none 55 = .ok (.ifCond .ne 7, 3) := by decide +kernel
theorem dX6_none_58 : decode cX6_none 58 = .ok (.iconst 1, 1) := by decide +kernel
theorem dX6_none_59 : decode cX6_none 59 = .ok (.goto 4, 3) := by decide +kernel
theorem dX6_none_62 : decode cX6_none 62 = .ok (.iconst 0, 1) := by decide +kernel
theorem dX6_none_63 : decode cX6_none 63 = .ok (.istore 6, 2) := by decide +kernel
theorem dX6_none_65 : decode cX6_none 65 = .ok (.iinc 7 1, 3) := by decide +kernel
theorem dX6_none_68 : decode cX6_none 68 = .ok (.goto (-46), 3) := by decide +kernel
theorem dX6_none_71 : decode cX6_none 71 = .ok (.iload 6, 2) := by decide +kernel
theorem dX6_none_73 : decode cX6_none 73 = .ok (.ifCond .eq 7, 3) := by decide +kernel
theorem dX6_none_76 : decode cX6_none 76 = .ok (.iconst 1, 1) := by decide +kernel
theorem dX6_none_77 : decode cX6_none 77 = .ok (.goto 4, 3) := by decide +kernel
theorem dX6_none_80 : decode cX6_none 80 = .ok (.iconst 0, 1) := by decide +kernel
theorem dX6_none_81 : decode cX6_none 81 = .ok (.ireturn, 1) := by decide +kernel
theorem dX6_isPossible_0 : decode cX6_isPossible 0 = .ok (.iconst 0, 1) := by decide +kernel
theorem dX6_isPossible_1 : decode cX6_isPossible 1 = .ok (.istore 7, 2) := by decide +kernel
theorem dX6_isPossible_3 : decode cX6_isPossible 3 = .ok (.iconst 0, 1) := by decide +kernel
theorem dX6_isPossible_4 : decode cX6_isPossible 4 = .ok (.istore 8, 2) := by decide +kernel
theorem dX6_isPossible_6 : decode cX6_isPossible 6 = .ok (.iload 8, 2) := by decide +kernel
theorem dX6_isPossible_8 : decode cX6_isPossible 8 = .ok (.bipush 6, 2) := by decide +kernel
theorem dX6_isPossible_10 : decode cX6_isPossible 10 = .ok (.if_icmp .ge 164, 3) := by decide +kernel
theorem dX6_isPossible_13 : decode cX6_isPossible 13 = .ok (.aload_n 0, 1) := by decide +kernel
theorem dX6_isPossible_14 : decode cX6_isPossible 14 = .ok (.iload_n 1, 1) := by decide +kernel
theorem dX6_isPossible_15 : decode cX6_isPossible 15 = .ok (.iload 8, 2) := by decide +kernel
theorem dX6_isPossible_17 : decode cX6_isPossible 17 = .ok (.invokevirtual 118, 3) := by decide +kernel
theorem dX6_isPossible_20 : decode cX6_isPossible 20 = .ok (.ifCond .eq 148, 3) := by decide +kernel
theorem dX6_isPossible_23 : decode cX6_isPossible 23 = .ok (.aload_n 0, 1) := by decide +kernel
theorem dX6_isPossible_24 : decode cX6_isPossible 24 = .ok (.iload_n 1, 1) := by decide +kernel
theorem dX6_isPossible_25 : decode cX6_isPossible 25 = .ok (.iload 8, 2) := by decide +kernel
theorem dX6_isPossible_27 : decode cX6_isPossible 27 = .ok (.iconst 0, 1) := by decide +kernel
theorem dX6_isPossible_28 : decode cX6_isPossible 28 = .ok (.invokevirtual 121, 3) := by decide +kernel
theorem dX6_isPossible_31 : decode cX6_isPossible 31 = .ok (.aload_n 0, 1) := by decide +kernel
theorem dX6_isPossible_32 : decode cX6_isPossible 32 = .ok (.getfield 7, 3) := by decide +kernel
theorem dX6_isPossible_35 : decode cX6_isPossible 35 = .ok (.iconst 0, 1) := by decide +kernel
theorem dX6_isPossible_36 : decode cX6_isPossible 36 = .ok (.iaload, 1) := by decide +kernel
theorem dX6_isPossible_37 : decode cX6_isPossible 37 = .ok (.if_icmp .gt 131, 3) := by decide +kernel
theorem dX6_isPossible_40 : decode cX6_isPossible 40 = .ok (.aload_n 0, 1) := by decide +kernel
theorem dX6_isPossible_41 : decode cX6_isPossible 41 = .ok (.iload_n 1, 1) := by decide +kernel
theorem dX6_isPossible_42 : decode cX6_isPossible 42 = .ok (.iload 8, 2) := by decide +kernel
theorem dX6_isPossible_44 : decode cX6_isPossible 44 = .ok (.iconst 1, 1) := by decide +kernel
theorem dX6_isPossible_45 : decode cX6_isPossible 45 = .ok (.invokevirtual 121, 3) := by decide +kernel
theorem dX6_isPossible_48 : decode cX6_isPossible 48 = .ok (.aload_n 0, 1) := by decide +kernel
theorem dX6_isPossible_49 : decode cX6_isPossible 49 = .ok (.getfield 7, 3) := by decide +kernel
theorem dX6_isPossible_52 : decode cX6_isPossible 52 = .ok (.iconst 1, 1) := by decide +kernel
theorem dX6_isPossible_53 : decode cX6_isPossible 53 = .ok (.iaload, 1) := by decide +kernel
theorem dX6_isPossible_54 : decode cX6_isPossible 54 = .ok (.if_icmp .gt 114, 3) := by decide +kernel
theorem dX6_isPossible_57 : decode cX6_isPossible 57 = .ok (.aload_n 0, 1) := by decide +kernel
theorem dX6_isPossible_58 : decode cX6_isPossible 58 = .ok (.iload_n 1, 1) := by decide +kernel
theorem dX6_isPossible_59 : decode cX6_isPossible 59 = .ok (.iload 8, 2) := by decide +kernel
theorem dX6_isPossible_61 : decode cX6_isPossible 61 = .ok (.iconst 2, 1) := by decide +kernel
theorem dX6_isPossible_62 : decode cX6_isPossible 62 = .ok (.invokevirtual 121, 3) := by decide +kernel
theorem dX6_isPossible_65 : decode cX6_isPossible 65 = .ok (.aload_n 0, 1) := by decide +kernel
theorem dX6_isPossible_66 : decode cX6_isPossible 66 = .ok (.getfield 7, 3) := by decide +kernel
theorem dX6_isPossible_69 : decode cX6_isPossible 69 = .ok (.iconst 2, 1) := by decide +kernel
theorem dX6_isPossible_70 : decode cX6_isPossible 70 = .ok (.iaload, 1) := by decide +kernel
theorem dX6_isPossible_71 : decode cX6_isPossible 71 = .ok (.if_icmp .gt 97, 3) := by decide +kernel
theorem dX6_isPossible_74 : decode cX6_isPossible 74 = .ok (.iconst 0, 1) := by decide +kernel
theorem dX6_isPossible_75 : decode cX6_isPossible 75 = .ok (.istore 9, 2) := by decide +kernel
theorem dX6_isPossible_77 : decode cX6_isPossible 77 = .ok (.iload 9, 2) := by decide +kernel
theorem dX6_isPossible_79 : decode cX6_isPossible 79 = .ok (.iconst 3, 1) := by decide +kernel
theorem dX6_isPossible_80 : decode cX6_isPossible 80 = .ok (.if_icmp .ge 88, 3) := by decide +kernel
theorem dX6_isPossible_83 : decode cX6_isPossible 83 = .ok (.iload 9, 2) := by decide +kernel
theorem dX6_isPossible_85 : decode cX6_isPossible 85 = .ok (.ifCond .ne 8, 3) := by decide +kernel
theorem dX6_isPossible_88 : decode cX6_isPossible 88 = .ok (.iload 4, 2) := by decide +kernel
theorem dX6_isPossible_90 : decode cX6_isPossible 90 = .ok (.goto 16, 3) := by decide +kernel
theorem dX6_isPossible_93 : decode cX6_isPossible 93 = .ok (.iload 9, 2) := by decide +kernel
theorem dX6_isPossible_95 : decode cX6_isPossible 95 = .ok (.iconst 1, 1) := by decide +kernel
theorem dX6_isPossible_96 : decode cX6_isPossible 96 = .ok (.if_icmp .ne 8, 3) := by decide +kernel
theorem dX6_isPossible_99 : decode cX6_isPossible 99 = .ok (.iload 5, 2) := by decide +kernel
theorem dX6_isPossible_101 : decode cX6_isPossible 101 = .ok (.goto 5, 3) := by decide +kernel
theorem dX6_isPossible_104 : decode cX6_isPossible 104 = .ok (.iload 6, 2) := by decide +kernel
theorem dX6_isPossible_106 : decode cX6_isPossible 106 = .ok (.istore 10, 2) := by decide +kernel
theorem dX6_isPossible_108 : decode cX6_isPossible 108 = .ok (.aload_n 0, 1) := by decide +kernel
theorem dX6_isPossible_109 : decode cX6_isPossible 109 = .ok (.iload_n 1, 1) := by decide +kernel
theorem dX6_isPossible_110 : decode cX6_isPossible 110 = .ok (.iload 8, 2) := by decide +kernel
theorem dX6_isPossible_112 : decode cX6_isPossible 112 = .ok (.iload 9, 2) := by decide +kernel
theorem dX6_isPossible_114 : decode cX6_isPossible 114 = .ok (.invokevirtual 121, 3) := by decide +kernel
theorem dX6_isPossible_117 : decode cX6_isPossible 117 = .ok (.istore 11, 2) := by decide +kernel
theorem dX6_isPossible_119 : decode cX6_isPossible 119 = .ok (.iload 7, 2) := by decide +kernel
theorem dX6_isPossible_121 : decode cX6_isPossible 121 = .ok (.ifCond .ne 34, 3) := by decide +kernel
theorem dX6_isPossible_124 : decode cX6_isPossible 124 = .ok (.iload 11, 2) := by decide +kernel
theorem dX6_isPossible_126 : decode cX6_isPossible 126 = .ok (.iload 10, 2) := by decide +kernel
theorem dX6_isPossible_128 : decode cX6_isPossible 128 = .ok (.if_icmp .le 27, 3) := by decide +kernel
theorem dX6_isPossible_131 : decode cX6_isPossible 131 = .ok (.iload 10, 2) := by decide +kernel
theorem dX6_isPossible_133 : decode cX6_isPossible 133 = .ok (.aload_n 0, 1) := by decide +kernel
theorem dX6_isPossible_134 : decode cX6_isPossible 134 = .ok (.iload_n 2, 1) := by decide +kernel
theorem dX6_isPossible_135 : decode cX6_isPossible 135 = .ok (.iload_n 3, 1) := by decide +kernel
theorem dX6_isPossible_136 : decode cX6_isPossible 136 = .ok (.iload 9, 2) := by decide +kernel
theorem dX6_isPossible_138 : decode cX6_isPossible 138 = .ok (.invokevirtual 121, 3) := by decide +kernel
theorem dX6_isPossible_141 : decode cX6_isPossible 141 = .ok (.iadd, 1) := by decide +kernel
theorem dX6_isPossible_142 : decode cX6_isPossible 142 = .ok (.iload 11, 2) := by decide +kernel
theorem dX6_isPossible_144 : decode cX6_isPossible 144 = .ok (.iadd, 1) := by decide +kernel
theorem dX6_isPossible_145 : decode cX6_isPossible 145 = .ok (.aload_n 0, 1) := by decide +kernel
theorem dX6_isPossible_146 : decode cX6_isPossible 146 = .ok (.getfield 7, 3) := by decide +kernel
theorem dX6_isPossible_149 : decode cX6_isPossible 149 = .ok (.iload 9, 2) := by decide +kernel
theorem dX6_isPossible_151 : decode cX6_isPossible 151 = .ok (.iaload, 1) := by decide +kernel
theorem dX6_isPossible_152 : decode cX6_isPossible 152 = .ok (.if_icmp .gt 7, 3) := by decide +kernel
theorem dX6_isPossible_155 : decode cX6_isPossible 155 = .ok (.iconst 1, 1) := by decide +kernel
theorem dX6_isPossible_156 : decode cX6_isPossible 156 = .ok (.goto 4, 3) := by decide +kernel
theorem dX6_isPossible_159 : decode cX6_isPossible 159 = .ok (.iconst 0, 1) := by decide +kernel
theorem dX6_isPossible_160 : decode cX6_isPossible 160 = .ok (.istore 7, 2) := by decide +kernel
theorem dX6_isPossible_162 : decode cX6_isPossible 162 = .ok (.iinc 9 1, 3) := by decide +kernel
theorem dX6_isPossible_165 : decode cX6_isPossible 165 = .ok (.goto (-88), 3) := by decide +kernel
theorem dX6_isPossible_168 : decode cX6_isPossible 168 = .ok (.iinc 8 1, 3) := by decide +kernel
theorem dX6_isPossible_171 : decode cX6_isPossible 171 = .ok (.goto (-165), 3) := by decide +kernel
theorem dX6_isPossible_174 : decode cX6_isPossible 174 = .ok (.iload 7, 2) := by decide +kernel
theorem dX6_isPossible_176 : decode cX6_isPossible 176 = .ok (.ireturn, 1) := by decide +kernel
end
section
/-! the model's own ways to the same numbers -/
def sd2 (t a : Int) : Int := if a = 0 then (if t = 0 then 12 else if t = 1 then 21 else if t = 2 then 102 else if t = 3 then 120 else if t = 4 then 201 else 210) / 100 else if a = 1 then (if t = 0 then 12 else if t = 1 then 21 else if t = 2 then 102 else if t = 3 then 120 else if t = 4 then 201 else 210) / 10 % 10 else (if t = 0 then 12 else if t = 1 then 21 else if t = 2 then 102 else if t = 3 then 120 else if t = 4 then 201 else 210) % 10
theorem sd2_all : ((List.range 6).all fun t => (List.range 3).all fun a => decide (sd2 (t : Nat) (a : Nat) = sd ((t : Nat) * 3 + (a : Nat)))) = true := by decide +kernel
theorem sd2_eq {t a : Int} (ht : 0 ≤ t ∧ t < 6) (ha : 0 ≤ a ∧ a < 3) : sd2 t a = sd (t * 3 + a) := by
  obtain ⟨x, rfl⟩ := Int.eq_ofNat_of_zero_le ht.1
  obtain ⟨y, rfl⟩ := Int.eq_ofNat_of_zero_le ha.1
  have := List.all_eq_true.mp (List.all_eq_true.mp sd2_all x (List.mem_range.mpr (by omega))) y (List.mem_range.mpr (by omega))
  exact of_decide_eq_true this
end
section
theorem m_sideOf {G : jG} (hG : mG G) (S : jMem) (t a : Int) (ht : 0 ≤ t ∧ t < 6) (ha : 0 ≤ a ∧ a < 3) : jM G yX6_sideOf cX6_sideOf 3 (some .int) 0 0 [.int (iI (t)), .int (iI (a))] S (jPi (fun v S' => sd2 t a = v ∧ S = S')) := by
  refine jM.of (by decide) (Nat.le_of_ble_eq_true rfl) (fun E C R => ?_)
  show J E G 0 [(0, .int (iI (t))), (1, .int (iI (a)))] [] _
  refine J_iload_n C 0 dX6_sideOf_0 rfl ?_
  refine J_if_ne C 9 dX6_sideOf_1 (by decide) (by omega) (fun h1 => ?_) (fun h1 => ?_)
  · refine J_iload_n C 0 dX6_sideOf_9 rfl ?_
    refine J_iconst C dX6_sideOf_10 ?_
    refine J_icmp_ne C 19 dX6_sideOf_11 (by decide) (by omega) (by omega) (fun h2 => ?_) (fun h2 => ?_)
    · refine J_iload_n C 0 dX6_sideOf_19 rfl ?_
      refine J_iconst C dX6_sideOf_20 ?_
      refine J_icmp_ne C 29 dX6_sideOf_21 (by decide) (by omega) (by omega) (fun h3 => ?_) (fun h3 => ?_)
      · refine J_iload_n C 0 dX6_sideOf_29 rfl ?_
        refine J_iconst C dX6_sideOf_30 ?_
        refine J_icmp_ne C 39 dX6_sideOf_31 (by decide) (by omega) (by omega) (fun h4 => ?_) (fun h4 => ?_)
        · refine J_iload_n C 0 dX6_sideOf_39 rfl ?_
          refine J_iconst C dX6_sideOf_40 ?_
          refine J_icmp_ne C 50 dX6_sideOf_41 (by decide) (by omega) (by omega) (fun h5 => ?_) (fun h5 => ?_)
          · refine J_sipush C dX6_sideOf_50 (by decide) ?_
            refine J_istore_n (lv' := [(2, .int (iI (210))), (0, .int (iI (t))), (1, .int (iI (a)))]) C dX6_sideOf_53 (by decide) rfl ?_
            refine J_iload_n C 2 dX6_sideOf_54 rfl ?_
            refine J_if_ne C 65 dX6_sideOf_55 (by decide) (by omega) (fun h6 => ?_) (fun h6 => ?_)
            · refine J_iload_n C 2 dX6_sideOf_65 rfl ?_
              refine J_iconst C dX6_sideOf_66 ?_
              refine J_icmp_ne C 80 dX6_sideOf_67 (by decide) (by omega) (by omega) (fun h7 => ?_) (fun h7 => ?_)
              · refine J_iload_n C 0 dX6_sideOf_80 rfl ?_
                refine J_bipush C dX6_sideOf_81 (by decide) ?_
                refine J_irem C dX6_sideOf_83 (by omega) (by omega) (by omega) (by omega) ?_
                exact J_iret R C dX6_sideOf_84 (jPi.mk ⟨by unfold sd2; (repeat first | rw [if_pos (by omega)] | rw [if_neg (by omega)]), rfl⟩)
              · refine J_iload_n C 0 dX6_sideOf_70 rfl ?_
                refine J_bipush C dX6_sideOf_71 (by decide) ?_
                refine J_idiv C dX6_sideOf_73 (by omega) (by omega) (by omega) (by omega) ?_
                refine J_bipush C dX6_sideOf_74 (by decide) ?_
                refine J_irem C dX6_sideOf_76 (by omega) (by omega) (by omega) (by omega) ?_
                refine J_goto C 84 dX6_sideOf_77 (by decide) ?_
                exact J_iret R C dX6_sideOf_84 (jPi.mk ⟨by unfold sd2; (repeat first | rw [if_pos (by omega)] | rw [if_neg (by omega)]), rfl⟩)
            · refine J_iload_n C 0 dX6_sideOf_58 rfl ?_
              refine J_bipush C dX6_sideOf_59 (by decide) ?_
              refine J_idiv C dX6_sideOf_61 (by omega) (by omega) (by omega) (by omega) ?_
              refine J_goto C 84 dX6_sideOf_62 (by decide) ?_
              exact J_iret R C dX6_sideOf_84 (jPi.mk ⟨by unfold sd2; (repeat first | rw [if_pos (by omega)] | rw [if_neg (by omega)]), rfl⟩)
          · refine J_sipush C dX6_sideOf_44 (by decide) ?_
            refine J_goto C 53 dX6_sideOf_47 (by decide) ?_
            refine J_istore_n (lv' := [(2, .int (iI (201))), (0, .int (iI (t))), (1, .int (iI (a)))]) C dX6_sideOf_53 (by decide) rfl ?_
            refine J_iload_n C 2 dX6_sideOf_54 rfl ?_
            refine J_if_ne C 65 dX6_sideOf_55 (by decide) (by omega) (fun h8 => ?_) (fun h8 => ?_)
            · refine J_iload_n C 2 dX6_sideOf_65 rfl ?_
              refine J_iconst C dX6_sideOf_66 ?_
              refine J_icmp_ne C 80 dX6_sideOf_67 (by decide) (by omega) (by omega) (fun h9 => ?_) (fun h9 => ?_)
              · refine J_iload_n C 0 dX6_sideOf_80 rfl ?_
                refine J_bipush C dX6_sideOf_81 (by decide) ?_
                refine J_irem C dX6_sideOf_83 (by omega) (by omega) (by omega) (by omega) ?_
                exact J_iret R C dX6_sideOf_84 (jPi.mk ⟨by unfold sd2; (repeat first | rw [if_pos (by omega)] | rw [if_neg (by omega)]), rfl⟩)
              · refine J_iload_n C 0 dX6_sideOf_70 rfl ?_
                refine J_bipush C dX6_sideOf_71 (by decide) ?_
                refine J_idiv C dX6_sideOf_73 (by omega) (by omega) (by omega) (by omega) ?_
                refine J_bipush C dX6_sideOf_74 (by decide) ?_
                refine J_irem C dX6_sideOf_76 (by omega) (by omega) (by omega) (by omega) ?_
                refine J_goto C 84 dX6_sideOf_77 (by decide) ?_
                exact J_iret R C dX6_sideOf_84 (jPi.mk ⟨by unfold sd2; (repeat first | rw [if_pos (by omega)] | rw [if_neg (by omega)]), rfl⟩)
            · refine J_iload_n C 0 dX6_sideOf_58 rfl ?_
              refine J_bipush C dX6_sideOf_59 (by decide) ?_
              refine J_idiv C dX6_sideOf_61 (by omega) (by omega) (by omega) (by omega) ?_
              refine J_goto C 84 dX6_sideOf_62 (by decide) ?_
              exact J_iret R C dX6_sideOf_84 (jPi.mk ⟨by unfold sd2; (repeat first | rw [if_pos (by omega)] | rw [if_neg (by omega)]), rfl⟩)
        · refine J_bipush C dX6_sideOf_34 (by decide) ?_
          refine J_goto C 53 dX6_sideOf_36 (by decide) ?_
          refine J_istore_n (lv' := [(2, .int (iI (120))), (0, .int (iI (t))), (1, .int (iI (a)))]) C dX6_sideOf_53 (by decide) rfl ?_
          refine J_iload_n C 2 dX6_sideOf_54 rfl ?_
          refine J_if_ne C 65 dX6_sideOf_55 (by decide) (by omega) (fun h10 => ?_) (fun h10 => ?_)
          · refine J_iload_n C 2 dX6_sideOf_65 rfl ?_
            refine J_iconst C dX6_sideOf_66 ?_
            refine J_icmp_ne C 80 dX6_sideOf_67 (by decide) (by omega) (by omega) (fun h11 => ?_) (fun h11 => ?_)
            · refine J_iload_n C 0 dX6_sideOf_80 rfl ?_
              refine J_bipush C dX6_sideOf_81 (by decide) ?_
              refine J_irem C dX6_sideOf_83 (by omega) (by omega) (by omega) (by omega) ?_
              exact J_iret R C dX6_sideOf_84 (jPi.mk ⟨by unfold sd2; (repeat first | rw [if_pos (by omega)] | rw [if_neg (by omega)]), rfl⟩)
            · refine J_iload_n C 0 dX6_sideOf_70 rfl ?_
              refine J_bipush C dX6_sideOf_71 (by decide) ?_
              refine J_idiv C dX6_sideOf_73 (by omega) (by omega) (by omega) (by omega) ?_
              refine J_bipush C dX6_sideOf_74 (by decide) ?_
              refine J_irem C dX6_sideOf_76 (by omega) (by omega) (by omega) (by omega) ?_
              refine J_goto C 84 dX6_sideOf_77 (by decide) ?_
              exact J_iret R C dX6_sideOf_84 (jPi.mk ⟨by unfold sd2; (repeat first | rw [if_pos (by omega)] | rw [if_neg (by omega)]), rfl⟩)
          · refine J_iload_n C 0 dX6_sideOf_58 rfl ?_
            refine J_bipush C dX6_sideOf_59 (by decide) ?_
            refine J_idiv C dX6_sideOf_61 (by omega) (by omega) (by omega) (by omega) ?_
            refine J_goto C 84 dX6_sideOf_62 (by decide) ?_
            exact J_iret R C dX6_sideOf_84 (jPi.mk ⟨by unfold sd2; (repeat first | rw [if_pos (by omega)] | rw [if_neg (by omega)]), rfl⟩)
      · refine J_bipush C dX6_sideOf_24 (by decide) ?_
        refine J_goto C 53 dX6_sideOf_26 (by decide) ?_
        refine J_istore_n (lv' := [(2, .int (iI (102))), (0, .int (iI (t))), (1, .int (iI (a)))]) C dX6_sideOf_53 (by decide) rfl ?_
        refine J_iload_n C 2 dX6_sideOf_54 rfl ?_
        refine J_if_ne C 65 dX6_sideOf_55 (by decide) (by omega) (fun h12 => ?_) (fun h12 => ?_)
        · refine J_iload_n C 2 dX6_sideOf_65 rfl ?_
          refine J_iconst C dX6_sideOf_66 ?_
          refine J_icmp_ne C 80 dX6_sideOf_67 (by decide) (by omega) (by omega) (fun h13 => ?_) (fun h13 => ?_)
          · refine J_iload_n C 0 dX6_sideOf_80 rfl ?_
            refine J_bipush C dX6_sideOf_81 (by decide) ?_
            refine J_irem C dX6_sideOf_83 (by omega) (by omega) (by omega) (by omega) ?_
            exact J_iret R C dX6_sideOf_84 (jPi.mk ⟨by unfold sd2; (repeat first | rw [if_pos (by omega)] | rw [if_neg (by omega)]), rfl⟩)
          · refine J_iload_n C 0 dX6_sideOf_70 rfl ?_
            refine J_bipush C dX6_sideOf_71 (by decide) ?_
            refine J_idiv C dX6_sideOf_73 (by omega) (by omega) (by omega) (by omega) ?_
            refine J_bipush C dX6_sideOf_74 (by decide) ?_
            refine J_irem C dX6_sideOf_76 (by omega) (by omega) (by omega) (by omega) ?_
            refine J_goto C 84 dX6_sideOf_77 (by decide) ?_
            exact J_iret R C dX6_sideOf_84 (jPi.mk ⟨by unfold sd2; (repeat first | rw [if_pos (by omega)] | rw [if_neg (by omega)]), rfl⟩)
        · refine J_iload_n C 0 dX6_sideOf_58 rfl ?_
          refine J_bipush C dX6_sideOf_59 (by decide) ?_
          refine J_idiv C dX6_sideOf_61 (by omega) (by omega) (by omega) (by omega) ?_
          refine J_goto C 84 dX6_sideOf_62 (by decide) ?_
          exact J_iret R C dX6_sideOf_84 (jPi.mk ⟨by unfold sd2; (repeat first | rw [if_pos (by omega)] | rw [if_neg (by omega)]), rfl⟩)
    · refine J_bipush C dX6_sideOf_14 (by decide) ?_
      refine J_goto C 53 dX6_sideOf_16 (by decide) ?_
      refine J_istore_n (lv' := [(2, .int (iI (21))), (0, .int (iI (t))), (1, .int (iI (a)))]) C dX6_sideOf_53 (by decide) rfl ?_
      refine J_iload_n C 2 dX6_sideOf_54 rfl ?_
      refine J_if_ne C 65 dX6_sideOf_55 (by decide) (by omega) (fun h14 => ?_) (fun h14 => ?_)
      · refine J_iload_n C 2 dX6_sideOf_65 rfl ?_
        refine J_iconst C dX6_sideOf_66 ?_
        refine J_icmp_ne C 80 dX6_sideOf_67 (by decide) (by omega) (by omega) (fun h15 => ?_) (fun h15 => ?_)
        · refine J_iload_n C 0 dX6_sideOf_80 rfl ?_
          refine J_bipush C dX6_sideOf_81 (by decide) ?_
          refine J_irem C dX6_sideOf_83 (by omega) (by omega) (by omega) (by omega) ?_
          exact J_iret R C dX6_sideOf_84 (jPi.mk ⟨by unfold sd2; (repeat first | rw [if_pos (by omega)] | rw [if_neg (by omega)]), rfl⟩)
        · refine J_iload_n C 0 dX6_sideOf_70 rfl ?_
          refine J_bipush C dX6_sideOf_71 (by decide) ?_
          refine J_idiv C dX6_sideOf_73 (by omega) (by omega) (by omega) (by omega) ?_
          refine J_bipush C dX6_sideOf_74 (by decide) ?_
          refine J_irem C dX6_sideOf_76 (by omega) (by omega) (by omega) (by omega) ?_
          refine J_goto C 84 dX6_sideOf_77 (by decide) ?_
          exact J_iret R C dX6_sideOf_84 (jPi.mk ⟨by unfold sd2; (repeat first | rw [if_pos (by omega)] | rw [if_neg (by omega)]), rfl⟩)
      · refine J_iload_n C 0 dX6_sideOf_58 rfl ?_
        refine J_bipush C dX6_sideOf_59 (by decide) ?_
        refine J_idiv C dX6_sideOf_61 (by omega) (by omega) (by omega) (by omega) ?_
        refine J_goto C 84 dX6_sideOf_62 (by decide) ?_
        exact J_iret R C dX6_sideOf_84 (jPi.mk ⟨by unfold sd2; (repeat first | rw [if_pos (by omega)] | rw [if_neg (by omega)]), rfl⟩)
  · refine J_bipush C dX6_sideOf_4 (by decide) ?_
    refine J_goto C 53 dX6_sideOf_6 (by decide) ?_
    refine J_istore_n (lv' := [(2, .int (iI (12))), (0, .int (iI (t))), (1, .int (iI (a)))]) C dX6_sideOf_53 (by decide) rfl ?_
    refine J_iload_n C 2 dX6_sideOf_54 rfl ?_
    refine J_if_ne C 65 dX6_sideOf_55 (by decide) (by omega) (fun h16 => ?_) (fun h16 => ?_)
    · refine J_iload_n C 2 dX6_sideOf_65 rfl ?_
      refine J_iconst C dX6_sideOf_66 ?_
      refine J_icmp_ne C 80 dX6_sideOf_67 (by decide) (by omega) (by omega) (fun h17 => ?_) (fun h17 => ?_)
      · refine J_iload_n C 0 dX6_sideOf_80 rfl ?_
        refine J_bipush C dX6_sideOf_81 (by decide) ?_
        refine J_irem C dX6_sideOf_83 (by omega) (by omega) (by omega) (by omega) ?_
        exact J_iret R C dX6_sideOf_84 (jPi.mk ⟨by unfold sd2; (repeat first | rw [if_pos (by omega)] | rw [if_neg (by omega)]), rfl⟩)
      · refine J_iload_n C 0 dX6_sideOf_70 rfl ?_
        refine J_bipush C dX6_sideOf_71 (by decide) ?_
        refine J_idiv C dX6_sideOf_73 (by omega) (by omega) (by omega) (by omega) ?_
        refine J_bipush C dX6_sideOf_74 (by decide) ?_
        refine J_irem C dX6_sideOf_76 (by omega) (by omega) (by omega) (by omega) ?_
        refine J_goto C 84 dX6_sideOf_77 (by decide) ?_
        exact J_iret R C dX6_sideOf_84 (jPi.mk ⟨by unfold sd2; (repeat first | rw [if_pos (by omega)] | rw [if_neg (by omega)]), rfl⟩)
    · refine J_iload_n C 0 dX6_sideOf_58 rfl ?_
      refine J_bipush C dX6_sideOf_59 (by decide) ?_
      refine J_idiv C dX6_sideOf_61 (by omega) (by omega) (by omega) (by omega) ?_
      refine J_goto C 84 dX6_sideOf_62 (by decide) ?_
      exact J_iret R C dX6_sideOf_84 (jPi.mk ⟨by unfold sd2; (repeat first | rw [if_pos (by omega)] | rw [if_neg (by omega)]), rfl⟩)
theorem m_extent {G : jG} (hG : mG G) (S : jMem) (b t a : Int) (hb : 0 ≤ b ∧ b < 8) (ht : 0 ≤ t ∧ t < 6) (ha : 0 ≤ a ∧ a < 3) : jM G yX6_extent cX6_extent 4 (some .int) 1 22 [.ref (jad G 0), .int (iI (b)), .int (iI (t)), .int (iI (a))] S (jPi (fun v S' => pext (S 2) b t a = v ∧ S = S')) := by
  refine jM.of (by decide) (Nat.le_of_ble_eq_true rfl) (fun E C R => ?_)
  show J E G 0 [(0, .ref (jad G 0)), (1, .int (iI (b))), (2, .int (iI (t))), (3, .int (iI (a)))] [] _
  have hs := sd_in (t * 3 + a)
  have he := sd2_eq ht ha
  refine J_aload_n C 0 dX6_extent_0 rfl ?_
  refine g_X6_13 hG C dX6_extent_1 ?_
  refine J_iconst C dX6_extent_4 ?_
  refine J_iload_n C 1 dX6_extent_5 rfl ?_
  refine J_imul C dX6_extent_6 ?_
  refine J_iload_n C 2 dX6_extent_7 rfl ?_
  refine J_iload_n C 3 dX6_extent_8 rfl ?_
  refine J_callS (rest := [.int (iI ((3) * (b))), .ref (jad G 2)]) C (m_sideOf hG S (t) (a) (by omega) (by omega)) kc_X6_sideOf kl_X6_77 dX6_extent_9 rfl rfl (by decide) (Nat.le_of_ble_eq_true rfl) (J_ki (fun v1 S1 h1 => ?_))
  obtain ⟨rfl, rfl⟩ := h1
  refine J_iadd C dX6_extent_12 ?_
  refine mald hG C 2 24 (by decide) dX6_extent_13 (by omega) (by omega) ?_
  exact J_iret R C dX6_extent_14 (jPi.mk ⟨by unfold pext; rw [he, Int.mul_comm b 3], rfl⟩)
theorem m_has {G : jG} (hG : mG G) (S : jMem) (b t : Int) (hk : mOK S) (hb : 0 ≤ b ∧ b < 8) (ht : 0 ≤ t ∧ t < 6) : jM G yX6_has cX6_has 3 (some .boolean) 0 0 [.ref (jad G 0), .int (iI (b)), .int (iI (t))] S (jPi (fun v S' => bb (phas (S 4) b t) = v ∧ S = S')) := by
  refine jM.of (by decide) (Nat.le_of_ble_eq_true rfl) (fun E C R => ?_)
  show J E G 0 [(0, .ref (jad G 0)), (1, .int (iI (b))), (2, .int (iI (t)))] [] _
  have h4 := hk.2.2.2.2.1 b (by omega) (by omega)
  have h5 := zdiv_in h4.1 t.toNat
  refine J_aload_n C 0 dX6_has_0 rfl ?_
  refine g_X6_19 hG C dX6_has_1 ?_
  refine J_iload_n C 1 dX6_has_4 rfl ?_
  refine mald hG C 4 8 (by decide) dX6_has_5 (by omega) (by omega) ?_
  refine J_iload_n C 2 dX6_has_6 rfl ?_
  refine J_ishr C dX6_has_7 (by omega) (by omega) (by omega) ?_
  refine J_iconst C dX6_has_8 ?_
  refine J_iand C (((S 4 (b)) / 2 ^ (t).toNat) % 2) dX6_has_9 (iI_and1 _ (by omega)) ?_
  refine J_iconst C dX6_has_10 ?_
  refine J_icmp_ne C 18 dX6_has_11 (by decide) (by omega) (by omega) (fun h1 => ?_) (fun h1 => ?_)
  · refine J_iconst C dX6_has_18 ?_
    exact J_zret R C dX6_has_19 (by first | exact Or.inl rfl | exact Or.inr rfl | omega) (jPi.mk ⟨by first | exact bb_t (by assumption) | exact bb_f (by assumption), rfl⟩)
  · refine J_iconst C dX6_has_14 ?_
    refine J_goto C 19 dX6_has_15 (by decide) ?_
    exact J_zret R C dX6_has_19 (by first | exact Or.inl rfl | exact Or.inr rfl | omega) (jPi.mk ⟨by first | exact bb_t (by assumption) | exact bb_f (by assumption), rfl⟩)
theorem m_volume {G : jG} (hG : mG G) (S : jMem) (b : Int) (hb : 0 ≤ b ∧ b < 8) : jM G yX6_volume cX6_volume 2 (some .int) 0 0 [.ref (jad G 0), .int (iI (b))] S (jPi (fun v S' => S 2 (3 * b) * S 2 (3 * b + 1) * S 2 (3 * b + 2) = v ∧ S = S')) := by
  refine jM.of (by decide) (Nat.le_of_ble_eq_true rfl) (fun E C R => ?_)
  show J E G 0 [(0, .ref (jad G 0)), (1, .int (iI (b)))] [] _
  refine J_aload_n C 0 dX6_volume_0 rfl ?_
  refine g_X6_13 hG C dX6_volume_1 ?_
  refine J_iconst C dX6_volume_4 ?_
  refine J_iload_n C 1 dX6_volume_5 rfl ?_
  refine J_imul C dX6_volume_6 ?_
  refine mald hG C 2 24 (by decide) dX6_volume_7 (by omega) (by omega) ?_
  refine J_aload_n C 0 dX6_volume_8 rfl ?_
  refine g_X6_13 hG C dX6_volume_9 ?_
  refine J_iconst C dX6_volume_12 ?_
  refine J_iload_n C 1 dX6_volume_13 rfl ?_
  refine J_imul C dX6_volume_14 ?_
  refine J_iconst C dX6_volume_15 ?_
  refine J_iadd C dX6_volume_16 ?_
  refine mald hG C 2 24 (by decide) dX6_volume_17 (by omega) (by omega) ?_
  refine J_imul C dX6_volume_18 ?_
  refine J_aload_n C 0 dX6_volume_19 rfl ?_
  refine g_X6_13 hG C dX6_volume_20 ?_
  refine J_iconst C dX6_volume_23 ?_
  refine J_iload_n C 1 dX6_volume_24 rfl ?_
  refine J_imul C dX6_volume_25 ?_
  refine J_iconst C dX6_volume_26 ?_
  refine J_iadd C dX6_volume_27 ?_
  refine mald hG C 2 24 (by decide) dX6_volume_28 (by omega) (by omega) ?_
  refine J_imul C dX6_volume_29 ?_
  exact J_iret R C dX6_volume_30 (jPi.mk ⟨by rfl, rfl⟩)
theorem m_isSide {G : jG} (hG : mG G) (S : jMem) (a : Int) (ha : inR a) : jM G yX6_isSide cX6_isSide 1 (some .boolean) 0 0 [.int (iI (a))] S (jPi (fun v S' => bb (1 ≤ a ∧ a ≤ 20) = v ∧ S = S')) := by
  refine jM.of (by decide) (Nat.le_of_ble_eq_true rfl) (fun E C R => ?_)
  show J E G 0 [(0, .int (iI (a)))] [] _
  refine J_iload_n C 0 dX6_isSide_0 rfl ?_
  refine J_iconst C dX6_isSide_1 ?_
  refine J_icmp_lt C 15 dX6_isSide_2 (by decide) (by omega) (by omega) (fun h1 => ?_) (fun h1 => ?_)
  · refine J_iconst C dX6_isSide_15 ?_
    exact J_zret R C dX6_isSide_16 (by first | exact Or.inl rfl | exact Or.inr rfl | omega) (jPi.mk ⟨by first | exact bb_t (by omega) | exact bb_f (by omega), rfl⟩)
  · refine J_iload_n C 0 dX6_isSide_5 rfl ?_
    refine J_bipush C dX6_isSide_6 (by decide) ?_
    refine J_icmp_gt C 15 dX6_isSide_8 (by decide) (by omega) (by omega) (fun h2 => ?_) (fun h2 => ?_)
    · refine J_iconst C dX6_isSide_15 ?_
      exact J_zret R C dX6_isSide_16 (by first | exact Or.inl rfl | exact Or.inr rfl | omega) (jPi.mk ⟨by first | exact bb_t (by omega) | exact bb_f (by omega), rfl⟩)
    · refine J_iconst C dX6_isSide_11 ?_
      refine J_goto C 16 dX6_isSide_12 (by decide) ?_
      exact J_zret R C dX6_isSide_16 (by first | exact Or.inl rfl | exact Or.inr rfl | omega) (jPi.mk ⟨by first | exact bb_t (by omega) | exact bb_f (by omega), rfl⟩)
theorem m_isBox {G : jG} (hG : mG G) (S : jMem) (b : Int) (hn : 0 ≤ S 0 1 ∧ S 0 1 ≤ 8) (hb : inR b) : jM G yX6_isBox cX6_isBox 2 (some .boolean) 0 0 [.ref (jad G 0), .int (iI (b))] S (jPi (fun v S' => bb (0 ≤ b ∧ b < S 0 1) = v ∧ S = S')) := by
  refine jM.of (by decide) (Nat.le_of_ble_eq_true rfl) (fun E C R => ?_)
  show J E G 0 [(0, .ref (jad G 0)), (1, .int (iI (b)))] [] _
  refine J_iload_n C 1 dX6_isBox_0 rfl ?_
  refine J_if_lt C 16 dX6_isBox_1 (by decide) (by omega) (fun h1 => ?_) (fun h1 => ?_)
  · refine J_iconst C dX6_isBox_16 ?_
    exact J_zret R C dX6_isBox_17 (by first | exact Or.inl rfl | exact Or.inr rfl | omega) (jPi.mk ⟨by first | exact bb_t (by omega) | exact bb_f (by omega), rfl⟩)
  · refine J_iload_n C 1 dX6_isBox_4 rfl ?_
    refine J_aload_n C 0 dX6_isBox_5 rfl ?_
    refine g_X6_81 hG C dX6_isBox_6 ?_
    refine J_icmp_ge C 16 dX6_isBox_9 (by decide) (by omega) (by omega) (fun h2 => ?_) (fun h2 => ?_)
    · refine J_iconst C dX6_isBox_16 ?_
      exact J_zret R C dX6_isBox_17 (by first | exact Or.inl rfl | exact Or.inr rfl | omega) (jPi.mk ⟨by first | exact bb_t (by omega) | exact bb_f (by omega), rfl⟩)
    · refine J_iconst C dX6_isBox_12 ?_
      refine J_goto C 17 dX6_isBox_13 (by decide) ?_
      exact J_zret R C dX6_isBox_17 (by first | exact Or.inl rfl | exact Or.inr rfl | omega) (jPi.mk ⟨by first | exact bb_t (by omega) | exact bb_f (by omega), rfl⟩)
theorem m_isDual {G : jG} (hG : mG G) (S : jMem) (a n : Int) (hk : mOK S) (ha : 0 ≤ a ∧ a < 3) (hn : inR n) : jM G yX6_isDual cX6_isDual 3 (some .boolean) 0 0 [.ref (jad G 0), .int (iI (a)), .int (iI (n))] S (jPi (fun v S' => bb (0 ≤ n ∧ n ≤ S 1 a / 2 * 2) = v ∧ S = S')) := by
  refine jM.of (by decide) (Nat.le_of_ble_eq_true rfl) (fun E C R => ?_)
  show J E G 0 [(0, .ref (jad G 0)), (1, .int (iI (a))), (2, .int (iI (n)))] [] _
  refine J_iload_n C 2 dX6_isDual_0 rfl ?_
  refine J_if_lt C 22 dX6_isDual_1 (by decide) (by omega) (fun h1 => ?_) (fun h1 => ?_)
  · refine J_iconst C dX6_isDual_22 ?_
    exact J_zret R C dX6_isDual_23 (by first | exact Or.inl rfl | exact Or.inr rfl | omega) (jPi.mk ⟨by first | exact bb_t (by omega) | exact bb_f (by omega), rfl⟩)
  · refine J_iload_n C 2 dX6_isDual_4 rfl ?_
    refine J_aload_n C 0 dX6_isDual_5 rfl ?_
    refine g_X6_7 hG C dX6_isDual_6 ?_
    refine J_iload_n C 1 dX6_isDual_9 rfl ?_
    refine mald hG C 1 3 (by decide) dX6_isDual_10 (by omega) (by omega) ?_
    have m2 := hk.2.1 (a) (by omega) (by omega)
    refine J_iconst C dX6_isDual_11 ?_
    refine J_idiv C dX6_isDual_12 (by omega) (by omega) (by omega) (by omega) ?_
    refine J_iconst C dX6_isDual_13 ?_
    refine J_imul C dX6_isDual_14 ?_
    refine J_icmp_gt C 22 dX6_isDual_15 (by decide) (by omega) (by omega) (fun h3 => ?_) (fun h3 => ?_)
    · refine J_iconst C dX6_isDual_22 ?_
      exact J_zret R C dX6_isDual_23 (by first | exact Or.inl rfl | exact Or.inr rfl | omega) (jPi.mk ⟨by first | exact bb_t (by omega) | exact bb_f (by omega), rfl⟩)
    · refine J_iconst C dX6_isDual_18 ?_
      refine J_goto C 23 dX6_isDual_19 (by decide) ?_
      exact J_zret R C dX6_isDual_23 (by first | exact Or.inl rfl | exact Or.inr rfl | omega) (jPi.mk ⟨by first | exact bb_t (by omega) | exact bb_f (by omega), rfl⟩)
theorem m_worth {G : jG} (hG : mG G) (S : jMem) (L n x : Int) (hL : 1 ≤ L ∧ L ≤ 20) (hn : 0 ≤ n ∧ n ≤ L / 2 * 2) (hx : 0 ≤ x ∧ x ≤ L) : jM G yX6_worth cX6_worth 6 (some .int) 0 0 [.int (iI (L)), .int (iI (n)), .int (iI (x))] S (jPi (fun v S' => pworth L n x = v ∧ S = S')) := by
  refine jM.of (by decide) (Nat.le_of_ble_eq_true rfl) (fun E C R => ?_)
  show J E G 0 [(0, .int (iI (L))), (1, .int (iI (n))), (2, .int (iI (x)))] [] _
  refine J_iload_n C 0 dX6_worth_0 rfl ?_
  refine J_iconst C dX6_worth_1 ?_
  refine J_idiv C dX6_worth_2 (by omega) (by omega) (by omega) (by omega) ?_
  refine J_istore_n (lv' := [(3, .int (iI ((L) / (2)))), (0, .int (iI (L))), (1, .int (iI (n))), (2, .int (iI (x)))]) C dX6_worth_3 (by decide) rfl ?_
  refine J_iload_n C 2 dX6_worth_4 rfl ?_
  refine J_if_ne C 10 dX6_worth_5 (by decide) (by omega) (fun h1 => ?_) (fun h1 => ?_)
  · refine J_iload_n C 2 dX6_worth_10 rfl ?_
    refine J_iload_n C 0 dX6_worth_11 rfl ?_
    refine J_icmp_gt C 37 dX6_worth_12 (by decide) (by omega) (by omega) (fun h2 => ?_) (fun h2 => ?_)
    · refine J_iload_n C 2 dX6_worth_37 rfl ?_
      refine J_iload_n C 0 dX6_worth_38 rfl ?_
      refine J_isub C dX6_worth_39 ?_
      refine J_istore (lv' := [(4, .int (iI ((n) - ((L) / (2))))), (3, .int (iI ((L) / (2)))), (0, .int (iI (L))), (1, .int (iI (n))), (2, .int (iI (x)))]) C dX6_worth_40 (by decide) rfl ?_
      refine J_iload_n C 2 dX6_worth_42 rfl ?_
      refine J_iload C 0 dX6_worth_43 rfl ?_
      refine J_idiv C dX6_worth_45 (by omega) (by omega) (by omega) (by omega) ?_
      refine J_istore (lv' := [(5, .int (iI ((L) / ((n) - ((L) / (2)))))), (4, .int (iI ((n) - ((L) / (2))))), (3, .int (iI ((L) / (2)))), (0, .int (iI (L))), (1, .int (iI (n))), (2, .int (iI (x)))]) C dX6_worth_46 (by decide) rfl ?_
      refine J_iconst C dX6_worth_48 ?_
      refine J_iload_n C 5 dX6_worth_49 rfl ?_
      refine J_imul C dX6_worth_50 ?_
      refine J_iload_n C 3 dX6_worth_51 rfl ?_
      refine J_icmp_ge C 64 dX6_worth_52 (by decide) (by omega) (by omega) (fun h3 => ?_) (fun h3 => ?_)
      · refine J_iconst C dX6_worth_64 ?_
        refine J_iload_n C 5 dX6_worth_65 rfl ?_
        refine J_imul C dX6_worth_66 ?_
        refine J_iload_n C 3 dX6_worth_67 rfl ?_
        refine J_icmp_ne C 76 dX6_worth_68 (by decide) (by omega) (by omega) (fun h4 => ?_) (fun h4 => ?_)
        · refine J_iconst C dX6_worth_76 ?_
          refine J_iload C 0 dX6_worth_77 rfl ?_
          refine J_iload_n C 3 dX6_worth_79 rfl ?_
          refine J_iload_n C 5 dX6_worth_80 rfl ?_
          refine J_isub C dX6_worth_81 ?_
          refine J_iload C 1 dX6_worth_82 rfl ?_
          refine J_idiv C dX6_worth_84 (by omega) (by omega) (by omega) (by omega) ?_
          refine J_isub C dX6_worth_85 ?_
          refine J_imul C dX6_worth_86 ?_
          exact J_iret R C dX6_worth_87 (jPi.mk ⟨by unfold pworth; (repeat first | rw [if_pos (by omega)] | rw [if_neg (by omega)]); try omega, rfl⟩)
        · refine J_iload C 0 dX6_worth_71 rfl ?_
          refine J_goto C 87 dX6_worth_73 (by decide) ?_
          exact J_iret R C dX6_worth_87 (jPi.mk ⟨by unfold pworth; (repeat first | rw [if_pos (by omega)] | rw [if_neg (by omega)]); try omega, rfl⟩)
      · refine J_iconst C dX6_worth_55 ?_
        refine J_iload_n C 5 dX6_worth_56 rfl ?_
        refine J_iload C 1 dX6_worth_57 rfl ?_
        refine J_idiv C dX6_worth_59 (by omega) (by omega) (by omega) (by omega) ?_
        refine J_imul C dX6_worth_60 ?_
        refine J_goto C 87 dX6_worth_61 (by decide) ?_
        exact J_iret R C dX6_worth_87 (jPi.mk ⟨by unfold pworth; (repeat first | rw [if_pos (by omega)] | rw [if_neg (by omega)]); try omega, rfl⟩)
    · refine J_iload_n C 3 dX6_worth_15 rfl ?_
      refine J_iload_n C 1 dX6_worth_16 rfl ?_
      refine J_iload_n C 2 dX6_worth_17 rfl ?_
      refine J_isub C dX6_worth_18 ?_
      refine J_icmp_le C 26 dX6_worth_19 (by decide) (by omega) (by omega) (fun h5 => ?_) (fun h5 => ?_)
      · refine J_iload_n C 3 dX6_worth_26 rfl ?_
        refine J_iload_n C 2 dX6_worth_27 rfl ?_
        refine J_icmp_ge C 35 dX6_worth_28 (by decide) (by omega) (by omega) (fun h6 => ?_) (fun h6 => ?_)
        · refine J_iload_n C 3 dX6_worth_35 rfl ?_
          exact J_iret R C dX6_worth_36 (jPi.mk ⟨by unfold pworth; (repeat first | rw [if_pos (by omega)] | rw [if_neg (by omega)]); try omega, rfl⟩)
        · refine J_iconst C dX6_worth_31 ?_
          refine J_goto C 36 dX6_worth_32 (by decide) ?_
          exact J_iret R C dX6_worth_36 (jPi.mk ⟨by unfold pworth; (repeat first | rw [if_pos (by omega)] | rw [if_neg (by omega)]); try omega, rfl⟩)
      · refine J_iload_n C 1 dX6_worth_22 rfl ?_
        refine J_goto C 36 dX6_worth_23 (by decide) ?_
        exact J_iret R C dX6_worth_36 (jPi.mk ⟨by unfold pworth; (repeat first | rw [if_pos (by omega)] | rw [if_neg (by omega)]); try omega, rfl⟩)
  · refine J_iload_n C 3 dX6_worth_8 rfl ?_
    exact J_iret R C dX6_worth_9 (jPi.mk ⟨by unfold pworth; (repeat first | rw [if_pos (by omega)] | rw [if_neg (by omega)]); try omega, rfl⟩)
theorem m_has3 {G : jG} (hG : mG G) (S : jMem) (n0 n1 n2 : Int) (hk : mOK S) (f0 : 0 ≤ n0 ∧ n0 ≤ S 1 0 / 2 * 2) (f1 : 0 ≤ n1 ∧ n1 ≤ S 1 1 / 2 * 2) (f2 : 0 ≤ n2 ∧ n2 ≤ S 1 2 / 2 * 2) : jM G yX6_has_ cX6_has_ 4 (some .long) 1 25 [.ref (jad G 0), .int (iI (n0)), .int (iI (n1)), .int (iI (n2))] S (jPl (fun v S' => phas3 (S 1) n0 n1 n2 = v ∧ S = S')) := by
  refine jM.of (by decide) (Nat.le_of_ble_eq_true rfl) (fun E C R => ?_)
  show J E G 0 [(0, .ref (jad G 0)), (1, .int (iI (n0))), (2, .int (iI (n1))), (3, .int (iI (n2)))] [] _
  have l0 := hk.2.1 0 (by omega) (by omega)
  have l1 := hk.2.1 1 (by omega) (by omega)
  have l2 := hk.2.1 2 (by omega) (by omega)
  refine J_aload_n C 0 dX6_has__0 rfl ?_
  refine g_X6_7 hG C dX6_has__1 ?_
  refine J_iconst C dX6_has__4 ?_
  refine mald hG C 1 3 (by decide) dX6_has__5 (by omega) (by omega) ?_
  refine J_iload_n C 1 dX6_has__6 rfl ?_
  refine J_aload_n C 0 dX6_has__7 rfl ?_
  refine g_X6_7 hG C dX6_has__8 ?_
  refine J_iconst C dX6_has__11 ?_
  refine mald hG C 1 3 (by decide) dX6_has__12 (by omega) (by omega) ?_
  refine J_callS (rest := []) C (m_worth hG S (S 1 (0)) (n0) (S 1 (0)) (by omega) (by omega) (by omega)) kc_X6_worth kl_X6_192 dX6_has__13 rfl rfl (by decide) (Nat.le_of_ble_eq_true rfl) (J_ki (fun v1 S1 h1 => ?_))
  obtain ⟨rfl, rfl⟩ := h1
  have q1 := pworth_in (L := S 1 (0)) (n := n0) (x := S 1 (0)) (by omega) (by omega) (by omega)
  refine J_i2l C dX6_has__16 (by omega) ?_
  refine J_aload_n C 0 dX6_has__17 rfl ?_
  refine g_X6_7 hG C dX6_has__18 ?_
  refine J_iconst C dX6_has__21 ?_
  refine mald hG C 1 3 (by decide) dX6_has__22 (by omega) (by omega) ?_
  refine J_iload_n C 2 dX6_has__23 rfl ?_
  refine J_aload_n C 0 dX6_has__24 rfl ?_
  refine g_X6_7 hG C dX6_has__25 ?_
  refine J_iconst C dX6_has__28 ?_
  refine mald hG C 1 3 (by decide) dX6_has__29 (by omega) (by omega) ?_
  refine J_callS (rest := [.long (iL (pworth (S 1 (0)) (n0) (S 1 (0))))]) C (m_worth hG S (S 1 (1)) (n1) (S 1 (1)) (by omega) (by omega) (by omega)) kc_X6_worth kl_X6_192 dX6_has__30 rfl rfl (by decide) (Nat.le_of_ble_eq_true rfl) (J_ki (fun v2 S2 h2 => ?_))
  obtain ⟨rfl, rfl⟩ := h2
  have q2 := pworth_in (L := S 1 (1)) (n := n1) (x := S 1 (1)) (by omega) (by omega) (by omega)
  refine J_i2l C dX6_has__33 (by omega) ?_
  refine J_lmul C dX6_has__34 ?_
  refine J_aload_n C 0 dX6_has__35 rfl ?_
  refine g_X6_7 hG C dX6_has__36 ?_
  refine J_iconst C dX6_has__39 ?_
  refine mald hG C 1 3 (by decide) dX6_has__40 (by omega) (by omega) ?_
  refine J_iload_n C 3 dX6_has__41 rfl ?_
  refine J_aload_n C 0 dX6_has__42 rfl ?_
  refine g_X6_7 hG C dX6_has__43 ?_
  refine J_iconst C dX6_has__46 ?_
  refine mald hG C 1 3 (by decide) dX6_has__47 (by omega) (by omega) ?_
  refine J_callS (rest := [.long (iL ((pworth (S 1 (0)) (n0) (S 1 (0))) * (pworth (S 1 (1)) (n1) (S 1 (1)))))]) C (m_worth hG S (S 1 (2)) (n2) (S 1 (2)) (by omega) (by omega) (by omega)) kc_X6_worth kl_X6_192 dX6_has__48 rfl rfl (by decide) (Nat.le_of_ble_eq_true rfl) (J_ki (fun v3 S3 h3 => ?_))
  obtain ⟨rfl, rfl⟩ := h3
  have q3 := pworth_in (L := S 1 (2)) (n := n2) (x := S 1 (2)) (by omega) (by omega) (by omega)
  refine J_i2l C dX6_has__51 (by omega) ?_
  refine J_lmul C dX6_has__52 ?_
  exact J_lret R C dX6_has__53 (jPl.mk ⟨by rfl, rfl⟩)
theorem m_dual {G : jG} (hG : mG G) (S : jMem) (a n x : Int) (hk : mOK S) (ha : inR a) (hn : inR n) (hx : inR x) : jM G yX6_dual cX6_dual 4 (some .int) 1 25 [.ref (jad G 0), .int (iI (a)), .int (iI (n)), .int (iI (x))] S (jPi (fun v S' => (if (0 ≤ a ∧ a ≤ 2) ∧ (0 ≤ n ∧ n ≤ S 1 a / 2 * 2) ∧ (0 ≤ x ∧ x ≤ S 1 a) then pworth (S 1 a) n x else -1) = v ∧ S = S')) := by
  refine jM.of (by decide) (Nat.le_of_ble_eq_true rfl) (fun E C R => ?_)
  show J E G 0 [(0, .ref (jad G 0)), (1, .int (iI (a))), (2, .int (iI (n))), (3, .int (iI (x)))] [] _
  refine J_iload_n C 1 dX6_dual_0 rfl ?_
  refine J_if_lt C 32 dX6_dual_1 (by decide) (by omega) (fun h1 => ?_) (fun h1 => ?_)
  · refine J_iconst C dX6_dual_32 ?_
    refine J_goto C 47 dX6_dual_33 (by decide) ?_
    exact J_iret R C dX6_dual_47 (jPi.mk ⟨by first | rw [if_pos (by omega)] | rw [if_neg (by omega)], rfl⟩)
  · refine J_iload_n C 1 dX6_dual_4 rfl ?_
    refine J_iconst C dX6_dual_5 ?_
    refine J_icmp_gt C 32 dX6_dual_6 (by decide) (by omega) (by omega) (fun h2 => ?_) (fun h2 => ?_)
    · refine J_iconst C dX6_dual_32 ?_
      refine J_goto C 47 dX6_dual_33 (by decide) ?_
      exact J_iret R C dX6_dual_47 (jPi.mk ⟨by first | rw [if_pos (by omega)] | rw [if_neg (by omega)], rfl⟩)
    · refine J_aload_n C 0 dX6_dual_9 rfl ?_
      refine J_iload_n C 1 dX6_dual_10 rfl ?_
      refine J_iload_n C 2 dX6_dual_11 rfl ?_
      refine J_callV (k := 0) (rest := []) C (m_isDual hG S (a) (n) hk (by omega) (by omega)) kc_X6_isDual kl_X6_189 (by rw [hG.2]; decide) (by rw [hG.1]; rfl) rfl dX6_dual_12 rfl rfl (by decide) (Nat.le_of_ble_eq_true rfl) (J_ki (fun v3 S3 h3 => ?_))
      obtain ⟨rfl, rfl⟩ := h3
      have q4 := hk.2.1 (a) (by omega) (by omega)
      refine J_if_eq_b C 32 dX6_dual_15 (by decide) (fun h4 => ?_) (fun h4 => ?_)
      · refine J_iconst C dX6_dual_32 ?_
        refine J_goto C 47 dX6_dual_33 (by decide) ?_
        exact J_iret R C dX6_dual_47 (jPi.mk ⟨by first | rw [if_pos (by omega)] | rw [if_neg (by omega)], rfl⟩)
      · refine J_iload_n C 3 dX6_dual_18 rfl ?_
        refine J_if_lt C 32 dX6_dual_19 (by decide) (by omega) (fun h5 => ?_) (fun h5 => ?_)
        · refine J_iconst C dX6_dual_32 ?_
          refine J_goto C 47 dX6_dual_33 (by decide) ?_
          exact J_iret R C dX6_dual_47 (jPi.mk ⟨by first | rw [if_pos (by omega)] | rw [if_neg (by omega)], rfl⟩)
        · refine J_iload_n C 3 dX6_dual_22 rfl ?_
          refine J_aload_n C 0 dX6_dual_23 rfl ?_
          refine g_X6_7 hG C dX6_dual_24 ?_
          refine J_iload_n C 1 dX6_dual_27 rfl ?_
          refine mald hG C 1 3 (by decide) dX6_dual_28 (by omega) (by omega) ?_
          have m6 := hk.2.1 (a) (by omega) (by omega)
          refine J_icmp_le C 36 dX6_dual_29 (by decide) (by omega) (by omega) (fun h7 => ?_) (fun h7 => ?_)
          · refine J_aload_n C 0 dX6_dual_36 rfl ?_
            refine g_X6_7 hG C dX6_dual_37 ?_
            refine J_iload_n C 1 dX6_dual_40 rfl ?_
            refine mald hG C 1 3 (by decide) dX6_dual_41 (by omega) (by omega) ?_
            have m8 := hk.2.1 (a) (by omega) (by omega)
            refine J_iload_n C 2 dX6_dual_42 rfl ?_
            refine J_iload_n C 3 dX6_dual_43 rfl ?_
            refine J_callS (rest := []) C (m_worth hG S (S 1 (a)) (n) (x) (by omega) (by omega) (by omega)) kc_X6_worth kl_X6_192 dX6_dual_44 rfl rfl (by decide) (Nat.le_of_ble_eq_true rfl) (J_ki (fun v9 S9 h9 => ?_))
            obtain ⟨rfl, rfl⟩ := h9
            have q5 := pworth_in (L := S 1 (a)) (n := n) (x := x) (by omega) (by omega) (by omega)
            exact J_iret R C dX6_dual_47 (jPi.mk ⟨by first | rw [if_pos (by omega)] | rw [if_neg (by omega)], rfl⟩)
          · refine J_iconst C dX6_dual_32 ?_
            refine J_goto C 47 dX6_dual_33 (by decide) ?_
            exact J_iret R C dX6_dual_47 (jPi.mk ⟨by first | rw [if_pos (by omega)] | rw [if_neg (by omega)], rfl⟩)
theorem m_isPlace {G : jG} (hG : mG G) (S : jMem) (b t x y z : Int) (hk : mOK S) (hb : inR b) (ht : inR t) (hx : inR x) (hy : inR y) (hz : inR z) : jM G yX6_isPlace cX6_isPlace 6 (some .boolean) 2 45 [.ref (jad G 0), .int (iI (b)), .int (iI (t)), .int (iI (x)), .int (iI (y)), .int (iI (z))] S (jPi (fun v S' => bb (pplace (S 0 1) (S 1) (S 2) (S 4) b t x y z) = v ∧ S = S')) := by
  refine jM.of (by decide) (Nat.le_of_ble_eq_true rfl) (fun E C R => ?_)
  show J E G 0 [(0, .ref (jad G 0)), (1, .int (iI (b))), (2, .int (iI (t))), (3, .int (iI (x))), (4, .int (iI (y))), (5, .int (iI (z)))] [] _
  have hn := hk.1
  have l0 := hk.2.1 0 (by omega) (by omega)
  have l1 := hk.2.1 1 (by omega) (by omega)
  have l2 := hk.2.1 2 (by omega) (by omega)
  refine J_aload_n C 0 dX6_isPlace_0 rfl ?_
  refine J_iload_n C 1 dX6_isPlace_1 rfl ?_
  refine J_callV (k := 0) (rest := []) C (m_isBox hG S (b) (by omega) (by omega)) kc_X6_isBox kl_X6_151 (by rw [hG.2]; decide) (by rw [hG.1]; rfl) rfl dX6_isPlace_2 rfl rfl (by decide) (Nat.le_of_ble_eq_true rfl) (J_ki (fun v1 S1 h1 => ?_))
  obtain ⟨rfl, rfl⟩ := h1
  refine J_if_eq_b C 101 dX6_isPlace_5 (by decide) (fun h2 => ?_) (fun h2 => ?_)
  · refine J_iconst C dX6_isPlace_101 ?_
    exact J_zret R C dX6_isPlace_102 (by first | exact Or.inl rfl | exact Or.inr rfl | omega) (jPi.mk ⟨by first | exact bb_t (by omega) | exact bb_f (by omega), rfl⟩)
  · refine J_iload_n C 2 dX6_isPlace_8 rfl ?_
    refine J_if_lt C 101 dX6_isPlace_9 (by decide) (by omega) (fun h3 => ?_) (fun h3 => ?_)
    · refine J_iconst C dX6_isPlace_101 ?_
      exact J_zret R C dX6_isPlace_102 (by first | exact Or.inl rfl | exact Or.inr rfl | omega) (jPi.mk ⟨by first | exact bb_t (by omega) | exact bb_f (by omega), rfl⟩)
    · refine J_iload_n C 2 dX6_isPlace_12 rfl ?_
      refine J_bipush C dX6_isPlace_13 (by decide) ?_
      refine J_icmp_ge C 101 dX6_isPlace_15 (by decide) (by omega) (by omega) (fun h4 => ?_) (fun h4 => ?_)
      · refine J_iconst C dX6_isPlace_101 ?_
        exact J_zret R C dX6_isPlace_102 (by first | exact Or.inl rfl | exact Or.inr rfl | omega) (jPi.mk ⟨by first | exact bb_t (by omega) | exact bb_f (by omega), rfl⟩)
      · refine J_aload_n C 0 dX6_isPlace_18 rfl ?_
        refine J_iload_n C 1 dX6_isPlace_19 rfl ?_
        refine J_iload_n C 2 dX6_isPlace_20 rfl ?_
        refine J_callV (k := 0) (rest := []) C (m_has hG S (b) (t) hk (by omega) (by omega)) kc_X6_has kl_X6_118 (by rw [hG.2]; decide) (by rw [hG.1]; rfl) rfl dX6_isPlace_21 rfl rfl (by decide) (Nat.le_of_ble_eq_true rfl) (J_ki (fun v5 S5 h5 => ?_))
        obtain ⟨rfl, rfl⟩ := h5
        refine J_if_eq_b C 101 dX6_isPlace_24 (by decide) (fun h6 => ?_) (fun h6 => ?_)
        · refine J_iconst C dX6_isPlace_101 ?_
          exact J_zret R C dX6_isPlace_102 (by first | exact Or.inl rfl | exact Or.inr rfl | omega) (jPi.mk ⟨by first | exact bb_t (by omega) | exact bb_f (by omega), rfl⟩)
        · refine J_iload_n C 3 dX6_isPlace_27 rfl ?_
          refine J_if_lt C 101 dX6_isPlace_28 (by decide) (by omega) (fun h7 => ?_) (fun h7 => ?_)
          · refine J_iconst C dX6_isPlace_101 ?_
            exact J_zret R C dX6_isPlace_102 (by first | exact Or.inl rfl | exact Or.inr rfl | omega) (jPi.mk ⟨by first | exact bb_t (by omega) | exact bb_f (by omega), rfl⟩)
          · refine J_iload_n C 3 dX6_isPlace_31 rfl ?_
            refine J_aload_n C 0 dX6_isPlace_32 rfl ?_
            refine g_X6_7 hG C dX6_isPlace_33 ?_
            refine J_iconst C dX6_isPlace_36 ?_
            refine mald hG C 1 3 (by decide) dX6_isPlace_37 (by omega) (by omega) ?_
            refine J_aload_n C 0 dX6_isPlace_38 rfl ?_
            refine J_iload_n C 1 dX6_isPlace_39 rfl ?_
            refine J_iload_n C 2 dX6_isPlace_40 rfl ?_
            refine J_iconst C dX6_isPlace_41 ?_
            refine J_callV (k := 0) (rest := [.int (iI (S 1 (0))), .int (iI (x))]) C (m_extent hG S (b) (t) (0) (by omega) (by omega) (by omega)) kc_X6_extent kl_X6_121 (by rw [hG.2]; decide) (by rw [hG.1]; rfl) rfl dX6_isPlace_42 rfl rfl (by decide) (Nat.le_of_ble_eq_true rfl) (J_ki (fun v8 S8 h8 => ?_))
            obtain ⟨rfl, rfl⟩ := h8
            have q6 := pext_in hk (b := b) (t := t) (a := 0) (by omega) (by omega)
            refine J_isub C dX6_isPlace_45 ?_
            refine J_icmp_gt C 101 dX6_isPlace_46 (by decide) (by omega) (by omega) (fun h9 => ?_) (fun h9 => ?_)
            · refine J_iconst C dX6_isPlace_101 ?_
              exact J_zret R C dX6_isPlace_102 (by first | exact Or.inl rfl | exact Or.inr rfl | omega) (jPi.mk ⟨by first | exact bb_t (by omega) | exact bb_f (by omega), rfl⟩)
            · refine J_iload C 4 dX6_isPlace_49 rfl ?_
              refine J_if_lt C 101 dX6_isPlace_51 (by decide) (by omega) (fun h10 => ?_) (fun h10 => ?_)
              · refine J_iconst C dX6_isPlace_101 ?_
                exact J_zret R C dX6_isPlace_102 (by first | exact Or.inl rfl | exact Or.inr rfl | omega) (jPi.mk ⟨by first | exact bb_t (by omega) | exact bb_f (by omega), rfl⟩)
              · refine J_iload C 4 dX6_isPlace_54 rfl ?_
                refine J_aload_n C 0 dX6_isPlace_56 rfl ?_
                refine g_X6_7 hG C dX6_isPlace_57 ?_
                refine J_iconst C dX6_isPlace_60 ?_
                refine mald hG C 1 3 (by decide) dX6_isPlace_61 (by omega) (by omega) ?_
                refine J_aload_n C 0 dX6_isPlace_62 rfl ?_
                refine J_iload_n C 1 dX6_isPlace_63 rfl ?_
                refine J_iload_n C 2 dX6_isPlace_64 rfl ?_
                refine J_iconst C dX6_isPlace_65 ?_
                refine J_callV (k := 0) (rest := [.int (iI (S 1 (1))), .int (iI (y))]) C (m_extent hG S (b) (t) (1) (by omega) (by omega) (by omega)) kc_X6_extent kl_X6_121 (by rw [hG.2]; decide) (by rw [hG.1]; rfl) rfl dX6_isPlace_66 rfl rfl (by decide) (Nat.le_of_ble_eq_true rfl) (J_ki (fun v11 S11 h11 => ?_))
                obtain ⟨rfl, rfl⟩ := h11
                have q7 := pext_in hk (b := b) (t := t) (a := 1) (by omega) (by omega)
                refine J_isub C dX6_isPlace_69 ?_
                refine J_icmp_gt C 101 dX6_isPlace_70 (by decide) (by omega) (by omega) (fun h12 => ?_) (fun h12 => ?_)
                · refine J_iconst C dX6_isPlace_101 ?_
                  exact J_zret R C dX6_isPlace_102 (by first | exact Or.inl rfl | exact Or.inr rfl | omega) (jPi.mk ⟨by first | exact bb_t (by omega) | exact bb_f (by omega), rfl⟩)
                · refine J_iload C 5 dX6_isPlace_73 rfl ?_
                  refine J_if_lt C 101 dX6_isPlace_75 (by decide) (by omega) (fun h13 => ?_) (fun h13 => ?_)
                  · refine J_iconst C dX6_isPlace_101 ?_
                    exact J_zret R C dX6_isPlace_102 (by first | exact Or.inl rfl | exact Or.inr rfl | omega) (jPi.mk ⟨by first | exact bb_t (by omega) | exact bb_f (by omega), rfl⟩)
                  · refine J_iload C 5 dX6_isPlace_78 rfl ?_
                    refine J_aload_n C 0 dX6_isPlace_80 rfl ?_
                    refine g_X6_7 hG C dX6_isPlace_81 ?_
                    refine J_iconst C dX6_isPlace_84 ?_
                    refine mald hG C 1 3 (by decide) dX6_isPlace_85 (by omega) (by omega) ?_
                    refine J_aload_n C 0 dX6_isPlace_86 rfl ?_
                    refine J_iload_n C 1 dX6_isPlace_87 rfl ?_
                    refine J_iload_n C 2 dX6_isPlace_88 rfl ?_
                    refine J_iconst C dX6_isPlace_89 ?_
                    refine J_callV (k := 0) (rest := [.int (iI (S 1 (2))), .int (iI (z))]) C (m_extent hG S (b) (t) (2) (by omega) (by omega) (by omega)) kc_X6_extent kl_X6_121 (by rw [hG.2]; decide) (by rw [hG.1]; rfl) rfl dX6_isPlace_90 rfl rfl (by decide) (Nat.le_of_ble_eq_true rfl) (J_ki (fun v14 S14 h14 => ?_))
                    obtain ⟨rfl, rfl⟩ := h14
                    have q8 := pext_in hk (b := b) (t := t) (a := 2) (by omega) (by omega)
                    refine J_isub C dX6_isPlace_93 ?_
                    refine J_icmp_gt C 101 dX6_isPlace_94 (by decide) (by omega) (by omega) (fun h15 => ?_) (fun h15 => ?_)
                    · refine J_iconst C dX6_isPlace_101 ?_
                      exact J_zret R C dX6_isPlace_102 (by first | exact Or.inl rfl | exact Or.inr rfl | omega) (jPi.mk ⟨by first | exact bb_t (by omega) | exact bb_f (by omega), rfl⟩)
                    · refine J_iconst C dX6_isPlace_97 ?_
                      refine J_goto C 102 dX6_isPlace_98 (by decide) ?_
                      exact J_zret R C dX6_isPlace_102 (by first | exact Or.inl rfl | exact Or.inr rfl | omega) (jPi.mk ⟨by first | exact bb_t (by omega) | exact bb_f (by omega), rfl⟩)
end
section
def lcv (a b : Int) : Int := if b < a then 1 else if a = b then 0 else -1
theorem lcv_is (a b : Int) : (-1 ≤ lcv a b ∧ lcv a b ≤ 1) ∧ (0 ≤ lcv a b ↔ b ≤ a) ∧ (lcv a b ≤ 0 ↔ a ≤ b) := by
  unfold lcv
  by_cases h : b < a
  · rw [if_pos h]; omega
  · rw [if_neg h]
    by_cases h2 : a = b
    · rw [if_pos h2]; omega
    · rw [if_neg h2]; omega
theorem J_lcmpv {E : jEnv} {G : jG} {cc : ByteArray} {nL : Nat} {own : String} {fr lo : Nat} {pc : Nat} {lv : List (Nat × Value)} {st : List Value} {S : jMem} (C : jX E G cc nL own fr lo) {a b : Int} (hd : decode cc pc = .ok (.lcmp, 1)) (ha : inL a) (hb : inL b) (k : J E G (pc + 1) lv (.int (iI (lcv a b)) :: st) S) : J E G pc lv (.long (iL b) :: .long (iL a) :: st) S := J_lcmp C hd ha hb k
/-- the model's least so far -/
def mnI (has : Int) (P : Int → Prop) (v : Int → Int) (t ls so : Int) : Prop := (so = 0 ∧ ls = has + 1 ∧ ∀ u, 0 ≤ u → u < t → ¬ P u) ∨ (so = 1 ∧ (∀ u, 0 ≤ u → u < t → P u → ls ≤ v u) ∧ ∃ u, (0 ≤ u ∧ u < t) ∧ P u ∧ ls = v u)
theorem mnI.skip {has t ls so : Int} {P : Int → Prop} {v : Int → Int} (h : mnI has P v t ls so) (hp : ¬ P t) : mnI has P v (t + 1) ls so := by
  rcases h with ⟨a, b, c⟩ | ⟨a, b, u, d, e⟩
  · exact Or.inl ⟨a, b, fun u h1 h2 => by
      by_cases q : u = t
      · subst q; exact hp
      · exact c u h1 (by omega)⟩
  · exact Or.inr ⟨a, fun w h1 h2 h3 => by
      by_cases q : w = t
      · subst q; exact absurd h3 hp
      · exact b w h1 (by omega) h3, u, by omega, e⟩
theorem mnI.keep {has t ls so : Int} {P : Int → Prop} {v : Int → Int} (h : mnI has P v t ls so) (hs : ¬ so = 0) (hv : ls < v t) : mnI has P v (t + 1) ls 1 := by
  rcases h with ⟨a, b, c⟩ | ⟨a, b, u, d, e⟩
  · exact absurd a hs
  · exact Or.inr ⟨rfl, fun w h1 h2 h3 => by
      by_cases q : w = t
      · subst q; omega
      · exact b w h1 (by omega) h3, u, by omega, e⟩
theorem mnI.new {has t ls so : Int} {P : Int → Prop} {v : Int → Int} (h : mnI has P v t ls so) (ht : 0 ≤ t) (hp : P t) (hs : so = 0 ∨ v t ≤ ls) : mnI has P v (t + 1) (v t) 1 := by
  refine Or.inr ⟨rfl, fun w h1 h2 h3 => ?_, t, by omega, hp, rfl⟩
  by_cases q : w = t
  · subst q; omega
  · rcases h with ⟨a, b, c⟩ | ⟨a, b, u, d, e⟩
    · exact absurd h3 (c w h1 (by omega))
    · have := b w h1 (by omega) h3
      omega
theorem mnI.done {n : Int} {len sid tb wt : Int → Int} (hk : sOK n len sid tb wt) {n0 n1 n2 b ls so : Int} (hb : 0 ≤ b ∧ b < 8) (h0 : 0 ≤ n0 ∧ n0 ≤ len 0 / 2 * 2) (h1 : 0 ≤ n1 ∧ n1 ≤ len 1 / 2 * 2) (h2 : 0 ≤ n2 ∧ n2 ≤ len 2 / 2 * 2) (h : mnI (phas3 len n0 n1 n2) (fun t => phas tb b t ∧ pshort len sid b t) (fun t => pprod len sid n0 n1 n2 b t) 6 ls so) : isLeast len sid tb n0 n1 n2 b ls := by
  rcases h with ⟨a, e, c⟩ | ⟨a, c, u, d, p, e⟩
  · exact ⟨by omega, fun t ht => absurd ht.2 (c t ht.1.1 ht.1.2), Or.inl e⟩
  · have := (prod_in hk hb p.2 h0 h1 h2).2
    exact ⟨by rw [e]; show pprod len sid n0 n1 n2 b u ≤ _; omega, fun t ht => c t ht.1.1 ht.1.2 ht.2, Or.inr ⟨u, ⟨d, p⟩, e⟩⟩
theorem zbit_all {n b : Int} (hn : 0 ≤ n ∧ n ≤ 8) (hb : 0 ≤ b ∧ b < n) : zbit (pall n) b ∧ zbit 255 b := by
  obtain ⟨x, rfl⟩ := Int.eq_ofNat_of_zero_le hn.1
  obtain ⟨y, rfl⟩ := Int.eq_ofNat_of_zero_le hb.1
  have hz : ((List.range 9).all fun x => (List.range 8).all fun y => !decide (y < x) || (decide ((1 * 2 ^ x - 1 : Int) / 2 ^ y % 2 = 1) && decide ((255 : Int) / 2 ^ y % 2 = 1))) = true := by decide
  have h1 := List.all_eq_true.mp (List.all_eq_true.mp hz x (List.mem_range.mpr (by omega))) y (List.mem_range.mpr (by omega))
  simp only [Bool.or_eq_true, Bool.and_eq_true, Bool.not_eq_true', decide_eq_true_eq, decide_eq_false_iff_not] at h1
  rcases h1 with h1 | h1
  · omega
  · exact h1
theorem pneed_255 {n : Int} {len sid tb : Int → Int} (hn : 0 ≤ n ∧ n ≤ 8) (n0 n1 n2 : Int) : pneed n len sid tb n0 n1 n2 255 = pneed n len sid tb n0 n1 n2 (pall n) := by
  unfold pneed
  refine isum_congr _ _ (fun j h1 h2 => ?_)
  have := zbit_all hn (b := j) (by omega)
  rw [bb_mul_t this.1, bb_mul_t this.2]
theorem need_in2 {n : Int} {len sid tb wt : Int → Int} (hk : sOK n len sid tb wt) {n0 n1 n2 m : Int} (h0 : 0 ≤ n0 ∧ n0 ≤ len 0 / 2 * 2) (h1 : 0 ≤ n1 ∧ n1 ≤ len 1 / 2 * 2) (h2 : 0 ≤ n2 ∧ n2 ≤ len 2 / 2 * 2) : 0 ≤ pneed n len sid tb n0 n1 n2 m ∧ pneed n len sid tb n0 n1 n2 m ≤ 8 * 64001 := by
  have hn := hk.1
  have hh := has_in hk.2.1 h0 h1 h2
  have := isum_in (f := fun b => bb (zbit m b) * pleast len sid tb n0 n1 n2 b) (B := 64001) (n - 0).toNat 0 (fun j a1 a2 => ?_)
  · unfold pneed
    have e : (((n - 0).toNat : Nat) : Int) * 64001 ≤ 8 * 64001 := by omega
    omega
  · obtain ⟨r, hr⟩ := isLeast_ex len sid tb n0 n1 n2 j
    try dsimp only
    rw [pleast_eq hr]
    have h3 : 0 ≤ r ∧ r ≤ 64001 := by
      refine ⟨?_, by have := hr.1; omega⟩
      rcases hr.2.2 with e | ⟨t, ht, e⟩
      · omega
      · rw [e]; exact (prod_in hk (by omega) ht.2.2 h0 h1 h2).1
    have hb := bb_in (zbit m j)
    have := mul_in hb h3
    omega
end
section
theorem lm_needs2 {E : jEnv} {G : jG} (hG : mG G) (C : jX E G cX6_needs 14 RX6 2 48) (S : jMem) (n0 n1 n2 m k acc : Int) (hk : mOK S) (f0 : 0 ≤ n0 ∧ n0 ≤ S 1 0 / 2 * 2) (f1 : 0 ≤ n1 ∧ n1 ≤ S 1 1 / 2 * 2) (f2 : 0 ≤ n2 ∧ n2 ≤ S 1 2 / 2 * 2) (hb : 0 ≤ k ∧ k < S 0 1) : ∀ (mm : Nat) (t ls so : Int), mm = (6 - t).toNat → ((0 ≤ t ∧ t ≤ 6) ∧ mnI (phas3 (S 1) n0 n1 n2) (fun t => phas (S 4) k t ∧ pshort (S 1) (S 2) k t) (fun t => pprod (S 1) (S 2) n0 n1 n2 k t) t ls so ∧ (0 ≤ ls ∧ ls ≤ 64001)) → (∀ r, isLeast (S 1) (S 2) (S 4) n0 n1 n2 k r → J E G 199 [(0, .ref (jad G 0)), (1, .int (iI n0)), (2, .int (iI n1)), (3, .int (iI n2)), (4, .int (iI m)), (5, .long (iL acc)), (7, .int (iI k)), (8, .long (iL r))] [] S) → J E G 32 [(0, .ref (jad G 0)), (1, .int (iI (n0))), (2, .int (iI (n1))), (3, .int (iI (n2))), (4, .int (iI (m))), (5, .long (iL (acc))), (7, .int (iI (k))), (8, .long (iL (ls))), (10, .int (iI (so))), (11, .int (iI (t)))] [] S := by
  intro mm
  induction mm using Nat.strongRecOn with | ind mm ih => ?_
  intro t ls so hm hj K
  obtain ⟨ht, hj, hsl⟩ := hj
  have hn := hk.1
  have hh := has_in hk.2.1 f0 f1 f2
  have hso : so = 0 ∨ so = 1 := by rcases hj with q | q <;> omega
  have l0 := hk.2.1 0 (by omega) (by omega)
  have l1 := hk.2.1 1 (by omega) (by omega)
  have l2 := hk.2.1 2 (by omega) (by omega)
  refine J_iload C 9 dX6_needs_32 rfl ?_
  refine J_bipush C dX6_needs_34 (by decide) ?_
  refine J_icmp_ge C 199 dX6_needs_36 (by decide) (by omega) (by omega) (fun h1 => ?_) (fun h1 => ?_)
  · refine J_lv [0, 1, 2, 3, 4, 5, 6, 7] rfl ?_
    have e : t = 6 := by omega
    rw [e] at hj
    exact K ls (hj.done hk (by omega) f0 f1 f2)
  · refine J_aload_n C 0 dX6_needs_39 rfl ?_
    refine J_iload C 6 dX6_needs_40 rfl ?_
    refine J_iload C 9 dX6_needs_42 rfl ?_
    refine J_callV (k := 0) (rest := []) C (m_has hG S (k) (t) hk (by omega) (by omega)) kc_X6_has kl_X6_118 (by rw [hG.2]; decide) (by rw [hG.1]; rfl) rfl dX6_needs_44 rfl rfl (by decide) (Nat.le_of_ble_eq_true rfl) (J_ki (fun v2 S2 h2 => ?_))
    obtain ⟨rfl, rfl⟩ := h2
    refine J_if_eq_b C 193 dX6_needs_47 (by decide) (fun h3 => ?_) (fun h3 => ?_)
    · refine J_iinc (lv' := [(11, .int (iI (t + 1))), (0, .ref (jad G 0)), (1, .int (iI (n0))), (2, .int (iI (n1))), (3, .int (iI (n2))), (4, .int (iI (m))), (5, .long (iL (acc))), (7, .int (iI (k))), (8, .long (iL (ls))), (10, .int (iI (so)))]) C 9 dX6_needs_193 rfl (by decide) rfl ?_
      refine J_goto C 32 dX6_needs_196 (by decide) ?_
      refine J_lv [1, 2, 3, 4, 5, 6, 7, 8, 9, 0] rfl ?_
      refine ih _ (by omega) (t + 1) ls so rfl ⟨by omega, hj.skip (fun hq => ?_), hsl⟩ K
      have hq1 : phas (S 4) k t := hq.1
      have hq2 : pshort (S 1) (S 2) k t := hq.2
      omega
    · refine J_aload_n C 0 dX6_needs_50 rfl ?_
      refine J_iload C 6 dX6_needs_51 rfl ?_
      refine J_iload C 9 dX6_needs_53 rfl ?_
      refine J_iconst C dX6_needs_55 ?_
      refine J_callV (k := 0) (rest := []) C (m_extent hG S (k) (t) (0) (by omega) (by omega) (by omega)) kc_X6_extent kl_X6_121 (by rw [hG.2]; decide) (by rw [hG.1]; rfl) rfl dX6_needs_56 rfl rfl (by decide) (Nat.le_of_ble_eq_true rfl) (J_ki (fun v4 S4 h4 => ?_))
      obtain ⟨rfl, rfl⟩ := h4
      have q1 := pext_in hk (b := k) (t := t) (a := 0) (by omega) (by omega)
      refine J_aload_n C 0 dX6_needs_59 rfl ?_
      refine g_X6_7 hG C dX6_needs_60 ?_
      refine J_iconst C dX6_needs_63 ?_
      refine mald hG C 1 3 (by decide) dX6_needs_64 (by omega) (by omega) ?_
      refine J_icmp_gt C 193 dX6_needs_65 (by decide) (by omega) (by omega) (fun h5 => ?_) (fun h5 => ?_)
      · refine J_iinc (lv' := [(11, .int (iI (t + 1))), (0, .ref (jad G 0)), (1, .int (iI (n0))), (2, .int (iI (n1))), (3, .int (iI (n2))), (4, .int (iI (m))), (5, .long (iL (acc))), (7, .int (iI (k))), (8, .long (iL (ls))), (10, .int (iI (so)))]) C 9 dX6_needs_193 rfl (by decide) rfl ?_
        refine J_goto C 32 dX6_needs_196 (by decide) ?_
        refine J_lv [1, 2, 3, 4, 5, 6, 7, 8, 9, 0] rfl ?_
        refine ih _ (by omega) (t + 1) ls so rfl ⟨by omega, hj.skip (fun hq => ?_), hsl⟩ K
        have hq1 : phas (S 4) k t := hq.1
        have hq2 : pshort (S 1) (S 2) k t := hq.2
        omega
      · refine J_aload_n C 0 dX6_needs_68 rfl ?_
        refine J_iload C 6 dX6_needs_69 rfl ?_
        refine J_iload C 9 dX6_needs_71 rfl ?_
        refine J_iconst C dX6_needs_73 ?_
        refine J_callV (k := 0) (rest := []) C (m_extent hG S (k) (t) (1) (by omega) (by omega) (by omega)) kc_X6_extent kl_X6_121 (by rw [hG.2]; decide) (by rw [hG.1]; rfl) rfl dX6_needs_74 rfl rfl (by decide) (Nat.le_of_ble_eq_true rfl) (J_ki (fun v6 S6 h6 => ?_))
        obtain ⟨rfl, rfl⟩ := h6
        have q2 := pext_in hk (b := k) (t := t) (a := 1) (by omega) (by omega)
        refine J_aload_n C 0 dX6_needs_77 rfl ?_
        refine g_X6_7 hG C dX6_needs_78 ?_
        refine J_iconst C dX6_needs_81 ?_
        refine mald hG C 1 3 (by decide) dX6_needs_82 (by omega) (by omega) ?_
        refine J_icmp_gt C 193 dX6_needs_83 (by decide) (by omega) (by omega) (fun h7 => ?_) (fun h7 => ?_)
        · refine J_iinc (lv' := [(11, .int (iI (t + 1))), (0, .ref (jad G 0)), (1, .int (iI (n0))), (2, .int (iI (n1))), (3, .int (iI (n2))), (4, .int (iI (m))), (5, .long (iL (acc))), (7, .int (iI (k))), (8, .long (iL (ls))), (10, .int (iI (so)))]) C 9 dX6_needs_193 rfl (by decide) rfl ?_
          refine J_goto C 32 dX6_needs_196 (by decide) ?_
          refine J_lv [1, 2, 3, 4, 5, 6, 7, 8, 9, 0] rfl ?_
          refine ih _ (by omega) (t + 1) ls so rfl ⟨by omega, hj.skip (fun hq => ?_), hsl⟩ K
          have hq1 : phas (S 4) k t := hq.1
          have hq2 : pshort (S 1) (S 2) k t := hq.2
          omega
        · refine J_aload_n C 0 dX6_needs_86 rfl ?_
          refine J_iload C 6 dX6_needs_87 rfl ?_
          refine J_iload C 9 dX6_needs_89 rfl ?_
          refine J_iconst C dX6_needs_91 ?_
          refine J_callV (k := 0) (rest := []) C (m_extent hG S (k) (t) (2) (by omega) (by omega) (by omega)) kc_X6_extent kl_X6_121 (by rw [hG.2]; decide) (by rw [hG.1]; rfl) rfl dX6_needs_92 rfl rfl (by decide) (Nat.le_of_ble_eq_true rfl) (J_ki (fun v8 S8 h8 => ?_))
          obtain ⟨rfl, rfl⟩ := h8
          have q3 := pext_in hk (b := k) (t := t) (a := 2) (by omega) (by omega)
          refine J_aload_n C 0 dX6_needs_95 rfl ?_
          refine g_X6_7 hG C dX6_needs_96 ?_
          refine J_iconst C dX6_needs_99 ?_
          refine mald hG C 1 3 (by decide) dX6_needs_100 (by omega) (by omega) ?_
          refine J_icmp_gt C 193 dX6_needs_101 (by decide) (by omega) (by omega) (fun h9 => ?_) (fun h9 => ?_)
          · refine J_iinc (lv' := [(11, .int (iI (t + 1))), (0, .ref (jad G 0)), (1, .int (iI (n0))), (2, .int (iI (n1))), (3, .int (iI (n2))), (4, .int (iI (m))), (5, .long (iL (acc))), (7, .int (iI (k))), (8, .long (iL (ls))), (10, .int (iI (so)))]) C 9 dX6_needs_193 rfl (by decide) rfl ?_
            refine J_goto C 32 dX6_needs_196 (by decide) ?_
            refine J_lv [1, 2, 3, 4, 5, 6, 7, 8, 9, 0] rfl ?_
            refine ih _ (by omega) (t + 1) ls so rfl ⟨by omega, hj.skip (fun hq => ?_), hsl⟩ K
            have hq1 : phas (S 4) k t := hq.1
            have hq2 : pshort (S 1) (S 2) k t := hq.2
            omega
          · refine J_aload_n C 0 dX6_needs_104 rfl ?_
            refine g_X6_7 hG C dX6_needs_105 ?_
            refine J_iconst C dX6_needs_108 ?_
            refine mald hG C 1 3 (by decide) dX6_needs_109 (by omega) (by omega) ?_
            refine J_iload_n C 1 dX6_needs_110 rfl ?_
            refine J_aload_n C 0 dX6_needs_111 rfl ?_
            refine J_iload C 6 dX6_needs_112 rfl ?_
            refine J_iload C 9 dX6_needs_114 rfl ?_
            refine J_iconst C dX6_needs_116 ?_
            refine J_callV (k := 0) (rest := [.int (iI (n0)), .int (iI (S 1 (0)))]) C (m_extent hG S (k) (t) (0) (by omega) (by omega) (by omega)) kc_X6_extent kl_X6_121 (by rw [hG.2]; decide) (by rw [hG.1]; rfl) rfl dX6_needs_117 rfl rfl (by decide) (Nat.le_of_ble_eq_true rfl) (J_ki (fun v10 S10 h10 => ?_))
            obtain ⟨rfl, rfl⟩ := h10
            have q4 := pext_in hk (b := k) (t := t) (a := 0) (by omega) (by omega)
            refine J_callS (rest := []) C (m_worth hG S (S 1 (0)) (n0) (pext (S 2) (k) (t) (0)) (by omega) (by omega) (by omega)) kc_X6_worth kl_X6_192 dX6_needs_120 rfl rfl (by decide) (Nat.le_of_ble_eq_true rfl) (J_ki (fun v11 S11 h11 => ?_))
            obtain ⟨rfl, rfl⟩ := h11
            have q5 := pworth_in (L := S 1 (0)) (n := n0) (x := pext (S 2) (k) (t) (0)) (by omega) (by omega) (by omega)
            refine J_i2l C dX6_needs_123 (by omega) ?_
            refine J_aload_n C 0 dX6_needs_124 rfl ?_
            refine g_X6_7 hG C dX6_needs_125 ?_
            refine J_iconst C dX6_needs_128 ?_
            refine mald hG C 1 3 (by decide) dX6_needs_129 (by omega) (by omega) ?_
            refine J_iload_n C 2 dX6_needs_130 rfl ?_
            refine J_aload_n C 0 dX6_needs_131 rfl ?_
            refine J_iload C 6 dX6_needs_132 rfl ?_
            refine J_iload C 9 dX6_needs_134 rfl ?_
            refine J_iconst C dX6_needs_136 ?_
            refine J_callV (k := 0) (rest := [.int (iI (n1)), .int (iI (S 1 (1))), .long (iL (pworth (S 1 (0)) (n0) (pext (S 2) (k) (t) (0))))]) C (m_extent hG S (k) (t) (1) (by omega) (by omega) (by omega)) kc_X6_extent kl_X6_121 (by rw [hG.2]; decide) (by rw [hG.1]; rfl) rfl dX6_needs_137 rfl rfl (by decide) (Nat.le_of_ble_eq_true rfl) (J_ki (fun v12 S12 h12 => ?_))
            obtain ⟨rfl, rfl⟩ := h12
            have q6 := pext_in hk (b := k) (t := t) (a := 1) (by omega) (by omega)
            refine J_callS (rest := [.long (iL (pworth (S 1 (0)) (n0) (pext (S 2) (k) (t) (0))))]) C (m_worth hG S (S 1 (1)) (n1) (pext (S 2) (k) (t) (1)) (by omega) (by omega) (by omega)) kc_X6_worth kl_X6_192 dX6_needs_140 rfl rfl (by decide) (Nat.le_of_ble_eq_true rfl) (J_ki (fun v13 S13 h13 => ?_))
            obtain ⟨rfl, rfl⟩ := h13
            have q7 := pworth_in (L := S 1 (1)) (n := n1) (x := pext (S 2) (k) (t) (1)) (by omega) (by omega) (by omega)
            refine J_i2l C dX6_needs_143 (by omega) ?_
            refine J_lmul C dX6_needs_144 ?_
            refine J_aload_n C 0 dX6_needs_145 rfl ?_
            refine g_X6_7 hG C dX6_needs_146 ?_
            refine J_iconst C dX6_needs_149 ?_
            refine mald hG C 1 3 (by decide) dX6_needs_150 (by omega) (by omega) ?_
            refine J_iload_n C 3 dX6_needs_151 rfl ?_
            refine J_aload_n C 0 dX6_needs_152 rfl ?_
            refine J_iload C 6 dX6_needs_153 rfl ?_
            refine J_iload C 9 dX6_needs_155 rfl ?_
            refine J_iconst C dX6_needs_157 ?_
            refine J_callV (k := 0) (rest := [.int (iI (n2)), .int (iI (S 1 (2))), .long (iL ((pworth (S 1 (0)) (n0) (pext (S 2) (k) (t) (0))) * (pworth (S 1 (1)) (n1) (pext (S 2) (k) (t) (1)))))]) C (m_extent hG S (k) (t) (2) (by omega) (by omega) (by omega)) kc_X6_extent kl_X6_121 (by rw [hG.2]; decide) (by rw [hG.1]; rfl) rfl dX6_needs_158 rfl rfl (by decide) (Nat.le_of_ble_eq_true rfl) (J_ki (fun v14 S14 h14 => ?_))
            obtain ⟨rfl, rfl⟩ := h14
            have q8 := pext_in hk (b := k) (t := t) (a := 2) (by omega) (by omega)
            refine J_callS (rest := [.long (iL ((pworth (S 1 (0)) (n0) (pext (S 2) (k) (t) (0))) * (pworth (S 1 (1)) (n1) (pext (S 2) (k) (t) (1)))))]) C (m_worth hG S (S 1 (2)) (n2) (pext (S 2) (k) (t) (2)) (by omega) (by omega) (by omega)) kc_X6_worth kl_X6_192 dX6_needs_161 rfl rfl (by decide) (Nat.le_of_ble_eq_true rfl) (J_ki (fun v15 S15 h15 => ?_))
            obtain ⟨rfl, rfl⟩ := h15
            have q9 := pworth_in (L := S 1 (2)) (n := n2) (x := pext (S 2) (k) (t) (2)) (by omega) (by omega) (by omega)
            refine J_i2l C dX6_needs_164 (by omega) ?_
            refine J_lmul C dX6_needs_165 ?_
            refine J_topl (b := pprod (S 1) (S 2) n0 n1 n2 k t) rfl ?_
            have pin := prod_in hk (b := k) (t := t) (by omega) ⟨by omega, by omega, by omega⟩ f0 f1 f2
            refine J_lstore (lv' := [(12, .long (iL (pprod (S 1) (S 2) n0 n1 n2 k t))), (0, .ref (jad G 0)), (1, .int (iI (n0))), (2, .int (iI (n1))), (3, .int (iI (n2))), (4, .int (iI (m))), (5, .long (iL (acc))), (7, .int (iI (k))), (8, .long (iL (ls))), (10, .int (iI (so))), (11, .int (iI (t)))]) C dX6_needs_166 (by decide) rfl ?_
            refine J_iload C 9 dX6_needs_168 rfl ?_
            refine J_if_eq C 186 dX6_needs_170 (by decide) (by omega) (fun h16 => ?_) (fun h16 => ?_)
            · refine J_lload C 0 dX6_needs_186 rfl ?_
              refine J_lstore (lv' := [(8, .long (iL (pprod (S 1) (S 2) n0 n1 n2 k t))), (12, .long (iL (pprod (S 1) (S 2) n0 n1 n2 k t))), (0, .ref (jad G 0)), (1, .int (iI (n0))), (2, .int (iI (n1))), (3, .int (iI (n2))), (4, .int (iI (m))), (5, .long (iL (acc))), (7, .int (iI (k))), (10, .int (iI (so))), (11, .int (iI (t)))]) C dX6_needs_188 (by decide) rfl ?_
              refine J_iconst C dX6_needs_190 ?_
              refine J_istore (lv' := [(10, .int (iI (1))), (8, .long (iL (pprod (S 1) (S 2) n0 n1 n2 k t))), (12, .long (iL (pprod (S 1) (S 2) n0 n1 n2 k t))), (0, .ref (jad G 0)), (1, .int (iI (n0))), (2, .int (iI (n1))), (3, .int (iI (n2))), (4, .int (iI (m))), (5, .long (iL (acc))), (7, .int (iI (k))), (11, .int (iI (t)))]) C dX6_needs_191 (by decide) rfl ?_
              refine J_iinc (lv' := [(11, .int (iI (t + 1))), (10, .int (iI (1))), (8, .long (iL (pprod (S 1) (S 2) n0 n1 n2 k t))), (12, .long (iL (pprod (S 1) (S 2) n0 n1 n2 k t))), (0, .ref (jad G 0)), (1, .int (iI (n0))), (2, .int (iI (n1))), (3, .int (iI (n2))), (4, .int (iI (m))), (5, .long (iL (acc))), (7, .int (iI (k)))]) C 10 dX6_needs_193 rfl (by decide) rfl ?_
              refine J_goto C 32 dX6_needs_196 (by decide) ?_
              refine J_lv [4, 5, 6, 7, 8, 9, 10, 2, 1, 0] rfl ?_
              exact ih _ (by omega) (t + 1) _ 1 rfl ⟨by omega, hj.new ht.1 ⟨by omega, by omega⟩ (by show so = 0 ∨ pprod (S 1) (S 2) n0 n1 n2 k t ≤ ls; omega), by omega⟩ K
            · refine J_lload C 8 dX6_needs_173 rfl ?_
              refine J_lload C 0 dX6_needs_175 rfl ?_
              refine J_lcmpv C dX6_needs_177 (by omega) (by omega) ?_
              have lz17 := lcv_is (ls) (pprod (S 1) (S 2) n0 n1 n2 k t)
              refine J_if_ge C 186 dX6_needs_178 (by decide) (by omega) (fun h18 => ?_) (fun h18 => ?_)
              · refine J_lload C 0 dX6_needs_186 rfl ?_
                refine J_lstore (lv' := [(8, .long (iL (pprod (S 1) (S 2) n0 n1 n2 k t))), (12, .long (iL (pprod (S 1) (S 2) n0 n1 n2 k t))), (0, .ref (jad G 0)), (1, .int (iI (n0))), (2, .int (iI (n1))), (3, .int (iI (n2))), (4, .int (iI (m))), (5, .long (iL (acc))), (7, .int (iI (k))), (10, .int (iI (so))), (11, .int (iI (t)))]) C dX6_needs_188 (by decide) rfl ?_
                refine J_iconst C dX6_needs_190 ?_
                refine J_istore (lv' := [(10, .int (iI (1))), (8, .long (iL (pprod (S 1) (S 2) n0 n1 n2 k t))), (12, .long (iL (pprod (S 1) (S 2) n0 n1 n2 k t))), (0, .ref (jad G 0)), (1, .int (iI (n0))), (2, .int (iI (n1))), (3, .int (iI (n2))), (4, .int (iI (m))), (5, .long (iL (acc))), (7, .int (iI (k))), (11, .int (iI (t)))]) C dX6_needs_191 (by decide) rfl ?_
                refine J_iinc (lv' := [(11, .int (iI (t + 1))), (10, .int (iI (1))), (8, .long (iL (pprod (S 1) (S 2) n0 n1 n2 k t))), (12, .long (iL (pprod (S 1) (S 2) n0 n1 n2 k t))), (0, .ref (jad G 0)), (1, .int (iI (n0))), (2, .int (iI (n1))), (3, .int (iI (n2))), (4, .int (iI (m))), (5, .long (iL (acc))), (7, .int (iI (k)))]) C 10 dX6_needs_193 rfl (by decide) rfl ?_
                refine J_goto C 32 dX6_needs_196 (by decide) ?_
                refine J_lv [4, 5, 6, 7, 8, 9, 10, 2, 1, 0] rfl ?_
                exact ih _ (by omega) (t + 1) _ 1 rfl ⟨by omega, hj.new ht.1 ⟨by omega, by omega⟩ (by show so = 0 ∨ pprod (S 1) (S 2) n0 n1 n2 k t ≤ ls; omega), by omega⟩ K
              · refine J_lload C 8 dX6_needs_181 rfl ?_
                refine J_goto C 188 dX6_needs_183 (by decide) ?_
                refine J_lstore (lv' := [(8, .long (iL (ls))), (12, .long (iL (pprod (S 1) (S 2) n0 n1 n2 k t))), (0, .ref (jad G 0)), (1, .int (iI (n0))), (2, .int (iI (n1))), (3, .int (iI (n2))), (4, .int (iI (m))), (5, .long (iL (acc))), (7, .int (iI (k))), (10, .int (iI (so))), (11, .int (iI (t)))]) C dX6_needs_188 (by decide) rfl ?_
                refine J_iconst C dX6_needs_190 ?_
                refine J_istore (lv' := [(10, .int (iI (1))), (8, .long (iL (ls))), (12, .long (iL (pprod (S 1) (S 2) n0 n1 n2 k t))), (0, .ref (jad G 0)), (1, .int (iI (n0))), (2, .int (iI (n1))), (3, .int (iI (n2))), (4, .int (iI (m))), (5, .long (iL (acc))), (7, .int (iI (k))), (11, .int (iI (t)))]) C dX6_needs_191 (by decide) rfl ?_
                refine J_iinc (lv' := [(11, .int (iI (t + 1))), (10, .int (iI (1))), (8, .long (iL (ls))), (12, .long (iL (pprod (S 1) (S 2) n0 n1 n2 k t))), (0, .ref (jad G 0)), (1, .int (iI (n0))), (2, .int (iI (n1))), (3, .int (iI (n2))), (4, .int (iI (m))), (5, .long (iL (acc))), (7, .int (iI (k)))]) C 10 dX6_needs_193 rfl (by decide) rfl ?_
                refine J_goto C 32 dX6_needs_196 (by decide) ?_
                refine J_lv [4, 5, 6, 7, 8, 9, 10, 2, 1, 0] rfl ?_
                exact ih _ (by omega) (t + 1) ls 1 rfl ⟨by omega, hj.keep (by assumption) (by show ls < pprod (S 1) (S 2) n0 n1 n2 k t; omega), hsl⟩ K
theorem lm_needs1 {E : jEnv} {G : jG} (hG : mG G) (C : jX E G cX6_needs 14 RX6 2 48) (S : jMem) (n0 n1 n2 m : Int) (hk : mOK S) (f0 : 0 ≤ n0 ∧ n0 ≤ S 1 0 / 2 * 2) (f1 : 0 ≤ n1 ∧ n1 ≤ S 1 1 / 2 * 2) (f2 : 0 ≤ n2 ∧ n2 ≤ S 1 2 / 2 * 2) (hm0 : 0 ≤ m ∧ m ≤ 255) (R : jR E G (some .long) (jPl (fun v S' => pneed (S 0 1) (S 1) (S 2) (S 4) n0 n1 n2 m = v ∧ S = S'))) : ∀ (mm : Nat) (k acc : Int), mm = (S 0 1 - k).toNat → ((0 ≤ k ∧ k ≤ S 0 1) ∧ acc + isum (fun b => bb (zbit m b) * pleast (S 1) (S 2) (S 4) n0 n1 n2 b) k (S 0 1 - k).toNat = pneed (S 0 1) (S 1) (S 2) (S 4) n0 n1 n2 m) → J E G 6 [(0, .ref (jad G 0)), (1, .int (iI (n0))), (2, .int (iI (n1))), (3, .int (iI (n2))), (4, .int (iI (m))), (5, .long (iL (acc))), (7, .int (iI (k)))] [] S := by
  intro mm
  induction mm using Nat.strongRecOn with | ind mm ih => ?_
  intro k acc hm hj
  have hn := hk.1
  have hb := hj.1
  have hh := has_in hk.2.1 f0 f1 f2
  have hz := zdiv_in hm0.1 k.toNat
  refine J_iload C 6 dX6_needs_6 rfl ?_
  refine J_aload_n C 0 dX6_needs_8 rfl ?_
  refine g_X6_81 hG C dX6_needs_9 ?_
  refine J_icmp_ge C 227 dX6_needs_12 (by decide) (by omega) (by omega) (fun h1 => ?_) (fun h1 => ?_)
  · refine J_lload C 5 dX6_needs_227 rfl ?_
    exact J_lret R C dX6_needs_229 (jPl.mk ⟨by have e := isum_end (fun b => bb (zbit m b) * pleast (S 1) (S 2) (S 4) n0 n1 n2 b) (i := k) (hi := S 0 1) (by omega); omega, rfl⟩)
  · refine J_aload_n C 0 dX6_needs_15 rfl ?_
    refine J_iload_n C 1 dX6_needs_16 rfl ?_
    refine J_iload_n C 2 dX6_needs_17 rfl ?_
    refine J_iload_n C 3 dX6_needs_18 rfl ?_
    refine J_callV (k := 0) (rest := []) C (m_has3 hG S (n0) (n1) (n2) hk (by omega) (by omega) (by omega)) kc_X6_has_ kl_X6_195 (by rw [hG.2]; decide) (by rw [hG.1]; rfl) rfl dX6_needs_19 rfl rfl (by decide) (Nat.le_of_ble_eq_true rfl) (J_kl (fun v2 S2 h2 => ?_))
    obtain ⟨rfl, rfl⟩ := h2
    refine J_lconst C 1 dX6_needs_22 (by decide) ?_
    refine J_ladd C dX6_needs_23 ?_
    refine J_lstore (lv' := [(8, .long (iL ((phas3 (S 1) (n0) (n1) (n2)) + (1)))), (0, .ref (jad G 0)), (1, .int (iI (n0))), (2, .int (iI (n1))), (3, .int (iI (n2))), (4, .int (iI (m))), (5, .long (iL (acc))), (7, .int (iI (k)))]) C dX6_needs_24 (by decide) rfl ?_
    refine J_iconst C dX6_needs_26 ?_
    refine J_istore (lv' := [(10, .int (iI (0))), (8, .long (iL ((phas3 (S 1) (n0) (n1) (n2)) + (1)))), (0, .ref (jad G 0)), (1, .int (iI (n0))), (2, .int (iI (n1))), (3, .int (iI (n2))), (4, .int (iI (m))), (5, .long (iL (acc))), (7, .int (iI (k)))]) C dX6_needs_27 (by decide) rfl ?_
    refine J_iconst C dX6_needs_29 ?_
    refine J_istore (lv' := [(11, .int (iI (0))), (10, .int (iI (0))), (8, .long (iL ((phas3 (S 1) (n0) (n1) (n2)) + (1)))), (0, .ref (jad G 0)), (1, .int (iI (n0))), (2, .int (iI (n1))), (3, .int (iI (n2))), (4, .int (iI (m))), (5, .long (iL (acc))), (7, .int (iI (k)))]) C dX6_needs_30 (by decide) rfl ?_
    refine J_lv [3, 4, 5, 6, 7, 8, 9, 2, 1, 0] rfl ?_
    have e := isum_step (fun b => bb (zbit m b) * pleast (S 1) (S 2) (S 4) n0 n1 n2 b) (i := k) (hi := S 0 1) (by omega)
    refine lm_needs2 hG C S n0 n1 n2 m k acc hk f0 f1 f2 (by omega) _ 0 _ 0 rfl ⟨by omega, Or.inl ⟨rfl, rfl, fun u h1 h2 => by omega⟩, by omega⟩ (fun r hr => ?_)
    try dsimp only at e
    refine J_lload C 5 dX6_needs_199 rfl ?_
    refine J_iload C 4 dX6_needs_201 rfl ?_
    refine J_iload C 6 dX6_needs_203 rfl ?_
    refine J_ishr C dX6_needs_205 (by omega) (by omega) (by omega) ?_
    refine J_iconst C dX6_needs_206 ?_
    refine J_iand C (((m) / 2 ^ (k).toNat) % 2) dX6_needs_207 (iI_and1 _ (by omega)) ?_
    refine J_iconst C dX6_needs_208 ?_
    refine J_icmp_ne C 217 dX6_needs_209 (by decide) (by omega) (by omega) (fun h71 => ?_) (fun h71 => ?_)
    · refine J_lconst C 0 dX6_needs_217 (by decide) ?_
      refine J_ladd C dX6_needs_218 ?_
      refine J_lstore (lv' := [(5, .long (iL ((acc) + (0)))), (0, .ref (jad G 0)), (1, .int (iI (n0))), (2, .int (iI (n1))), (3, .int (iI (n2))), (4, .int (iI (m))), (7, .int (iI (k))), (8, .long (iL (r)))]) C dX6_needs_219 (by decide) rfl ?_
      refine J_iinc (lv' := [(7, .int (iI (k + 1))), (5, .long (iL ((acc) + (0)))), (0, .ref (jad G 0)), (1, .int (iI (n0))), (2, .int (iI (n1))), (3, .int (iI (n2))), (4, .int (iI (m))), (8, .long (iL (r)))]) C 6 dX6_needs_221 rfl (by decide) rfl ?_
      refine J_goto C 6 dX6_needs_224 (by decide) ?_
      rw [bb_mul_f (by assumption)] at e
      refine J_lv [2, 3, 4, 5, 6, 1, 0] rfl ?_
      exact ih _ (by omega) (k + 1) _ rfl ⟨by omega, by omega⟩
    · refine J_lload C 7 dX6_needs_212 rfl ?_
      refine J_goto C 218 dX6_needs_214 (by decide) ?_
      refine J_ladd C dX6_needs_218 ?_
      refine J_lstore (lv' := [(5, .long (iL ((acc) + (r)))), (0, .ref (jad G 0)), (1, .int (iI (n0))), (2, .int (iI (n1))), (3, .int (iI (n2))), (4, .int (iI (m))), (7, .int (iI (k))), (8, .long (iL (r)))]) C dX6_needs_219 (by decide) rfl ?_
      refine J_iinc (lv' := [(7, .int (iI (k + 1))), (5, .long (iL ((acc) + (r)))), (0, .ref (jad G 0)), (1, .int (iI (n0))), (2, .int (iI (n1))), (3, .int (iI (n2))), (4, .int (iI (m))), (8, .long (iL (r)))]) C 6 dX6_needs_221 rfl (by decide) rfl ?_
      refine J_goto C 6 dX6_needs_224 (by decide) ?_
      rw [bb_mul_t (by assumption), pleast_eq hr] at e
      refine J_lv [2, 3, 4, 5, 6, 1, 0] rfl ?_
      exact ih _ (by omega) (k + 1) _ rfl ⟨by omega, by omega⟩
theorem m_needs {G : jG} (hG : mG G) (S : jMem) (n0 n1 n2 m : Int) (hk : mOK S) (f0 : 0 ≤ n0 ∧ n0 ≤ S 1 0 / 2 * 2) (f1 : 0 ≤ n1 ∧ n1 ≤ S 1 1 / 2 * 2) (f2 : 0 ≤ n2 ∧ n2 ≤ S 1 2 / 2 * 2) (hm0 : 0 ≤ m ∧ m ≤ 255) : jM G yX6_needs cX6_needs 14 (some .long) 2 48 [.ref (jad G 0), .int (iI (n0)), .int (iI (n1)), .int (iI (n2)), .int (iI (m))] S (jPl (fun v S' => pneed (S 0 1) (S 1) (S 2) (S 4) n0 n1 n2 m = v ∧ S = S')) := by
  refine jM.of (by decide) (Nat.le_of_ble_eq_true rfl) (fun E C R => ?_)
  show J E G 0 [(0, .ref (jad G 0)), (1, .int (iI (n0))), (2, .int (iI (n1))), (3, .int (iI (n2))), (4, .int (iI (m)))] [] _
  have hn := hk.1
  refine J_lconst C 0 dX6_needs_0 (by decide) ?_
  refine J_lstore (lv' := [(5, .long (iL (0))), (0, .ref (jad G 0)), (1, .int (iI (n0))), (2, .int (iI (n1))), (3, .int (iI (n2))), (4, .int (iI (m)))]) C dX6_needs_1 (by decide) rfl ?_
  refine J_iconst C dX6_needs_3 ?_
  refine J_istore (lv' := [(7, .int (iI (0))), (5, .long (iL (0))), (0, .ref (jad G 0)), (1, .int (iI (n0))), (2, .int (iI (n1))), (3, .int (iI (n2))), (4, .int (iI (m)))]) C dX6_needs_4 (by decide) rfl ?_
  refine J_lv [2, 3, 4, 5, 6, 1, 0] rfl ?_
  exact lm_needs1 hG C S n0 n1 n2 m hk f0 f1 f2 hm0 R _ 0 0 rfl ⟨by omega, by rw [Int.zero_add]; rfl⟩
theorem m_need {G : jG} (hG : mG G) (S : jMem) (n0 n1 n2 w : Int) (hk : mOK S) (h0 : inR n0) (h1 : inR n1) (h2 : inR n2) (hw : inR w) : jM G yX6_need cX6_need 5 (some .long) 3 81 [.ref (jad G 0), .int (iI (n0)), .int (iI (n1)), .int (iI (n2)), .int (iI (w))] S (jPl (fun v S' => (if (0 ≤ n0 ∧ n0 ≤ S 1 0 / 2 * 2) ∧ (0 ≤ n1 ∧ n1 ≤ S 1 1 / 2 * 2) ∧ (0 ≤ n2 ∧ n2 ≤ S 1 2 / 2 * 2) ∧ (0 ≤ w ∧ w ≤ 1) then (if w = 1 then phas3 (S 1) n0 n1 n2 else pneed (S 0 1) (S 1) (S 2) (S 4) n0 n1 n2 255) else -1) = v ∧ S = S')) := by
  refine jM.of (by decide) (Nat.le_of_ble_eq_true rfl) (fun E C R => ?_)
  show J E G 0 [(0, .ref (jad G 0)), (1, .int (iI (n0))), (2, .int (iI (n1))), (3, .int (iI (n2))), (4, .int (iI (w)))] [] _
  have l0 := hk.2.1 0 (by omega) (by omega)
  have l1 := hk.2.1 1 (by omega) (by omega)
  have l2 := hk.2.1 2 (by omega) (by omega)
  refine J_aload_n C 0 dX6_need_0 rfl ?_
  refine J_iconst C dX6_need_1 ?_
  refine J_iload_n C 1 dX6_need_2 rfl ?_
  refine J_callV (k := 0) (rest := []) C (m_isDual hG S (0) (n0) hk (by omega) (by omega)) kc_X6_isDual kl_X6_189 (by rw [hG.2]; decide) (by rw [hG.1]; rfl) rfl dX6_need_3 rfl rfl (by decide) (Nat.le_of_ble_eq_true rfl) (J_ki (fun v1 S1 h1 => ?_))
  obtain ⟨rfl, rfl⟩ := h1
  have q10 := hk.2.1 (0) (by omega) (by omega)
  refine J_if_eq_b C 38 dX6_need_6 (by decide) (fun h2 => ?_) (fun h2 => ?_)
  · refine J_ldc2 (n := -1) C kk_X6_198 dX6_need_38 ?_
    exact J_lret R C dX6_need_41 (jPl.mk ⟨by first | (rw [if_neg (by omega)]; done) | (rw [if_pos (by omega), if_pos (by omega)]; done) | (rw [if_pos (by omega), if_neg (by omega)]; done), rfl⟩)
  · refine J_aload_n C 0 dX6_need_9 rfl ?_
    refine J_iconst C dX6_need_10 ?_
    refine J_iload_n C 2 dX6_need_11 rfl ?_
    refine J_callV (k := 0) (rest := []) C (m_isDual hG S (1) (n1) hk (by omega) (by omega)) kc_X6_isDual kl_X6_189 (by rw [hG.2]; decide) (by rw [hG.1]; rfl) rfl dX6_need_12 rfl rfl (by decide) (Nat.le_of_ble_eq_true rfl) (J_ki (fun v3 S3 h3 => ?_))
    obtain ⟨rfl, rfl⟩ := h3
    have q11 := hk.2.1 (1) (by omega) (by omega)
    refine J_if_eq_b C 38 dX6_need_15 (by decide) (fun h4 => ?_) (fun h4 => ?_)
    · refine J_ldc2 (n := -1) C kk_X6_198 dX6_need_38 ?_
      exact J_lret R C dX6_need_41 (jPl.mk ⟨by first | (rw [if_neg (by omega)]; done) | (rw [if_pos (by omega), if_pos (by omega)]; done) | (rw [if_pos (by omega), if_neg (by omega)]; done), rfl⟩)
    · refine J_aload_n C 0 dX6_need_18 rfl ?_
      refine J_iconst C dX6_need_19 ?_
      refine J_iload_n C 3 dX6_need_20 rfl ?_
      refine J_callV (k := 0) (rest := []) C (m_isDual hG S (2) (n2) hk (by omega) (by omega)) kc_X6_isDual kl_X6_189 (by rw [hG.2]; decide) (by rw [hG.1]; rfl) rfl dX6_need_21 rfl rfl (by decide) (Nat.le_of_ble_eq_true rfl) (J_ki (fun v5 S5 h5 => ?_))
      obtain ⟨rfl, rfl⟩ := h5
      have q12 := hk.2.1 (2) (by omega) (by omega)
      refine J_if_eq_b C 38 dX6_need_24 (by decide) (fun h6 => ?_) (fun h6 => ?_)
      · refine J_ldc2 (n := -1) C kk_X6_198 dX6_need_38 ?_
        exact J_lret R C dX6_need_41 (jPl.mk ⟨by first | (rw [if_neg (by omega)]; done) | (rw [if_pos (by omega), if_pos (by omega)]; done) | (rw [if_pos (by omega), if_neg (by omega)]; done), rfl⟩)
      · refine J_iload C 4 dX6_need_27 rfl ?_
        refine J_if_lt C 38 dX6_need_29 (by decide) (by omega) (fun h7 => ?_) (fun h7 => ?_)
        · refine J_ldc2 (n := -1) C kk_X6_198 dX6_need_38 ?_
          exact J_lret R C dX6_need_41 (jPl.mk ⟨by first | (rw [if_neg (by omega)]; done) | (rw [if_pos (by omega), if_pos (by omega)]; done) | (rw [if_pos (by omega), if_neg (by omega)]; done), rfl⟩)
        · refine J_iload C 4 dX6_need_32 rfl ?_
          refine J_iconst C dX6_need_34 ?_
          refine J_icmp_le C 42 dX6_need_35 (by decide) (by omega) (by omega) (fun h8 => ?_) (fun h8 => ?_)
          · refine J_iload C 4 dX6_need_42 rfl ?_
            refine J_iconst C dX6_need_44 ?_
            refine J_icmp_ne C 58 dX6_need_45 (by decide) (by omega) (by omega) (fun h9 => ?_) (fun h9 => ?_)
            · refine J_aload_n C 0 dX6_need_58 rfl ?_
              refine J_iload_n C 1 dX6_need_59 rfl ?_
              refine J_iload_n C 2 dX6_need_60 rfl ?_
              refine J_iload_n C 3 dX6_need_61 rfl ?_
              refine J_sipush C dX6_need_62 (by decide) ?_
              refine J_callV (k := 0) (rest := []) C (m_needs hG S (n0) (n1) (n2) (255) hk (by omega) (by omega) (by omega) (by omega)) kc_X6_needs kl_X6_200 (by rw [hG.2]; decide) (by rw [hG.1]; rfl) rfl dX6_need_65 rfl rfl (by decide) (Nat.le_of_ble_eq_true rfl) (J_kl (fun v10 S10 h10 => ?_))
              obtain ⟨rfl, rfl⟩ := h10
              exact J_lret R C dX6_need_68 (jPl.mk ⟨by first | (rw [if_neg (by omega)]; done) | (rw [if_pos (by omega), if_pos (by omega)]; done) | (rw [if_pos (by omega), if_neg (by omega)]; done), rfl⟩)
            · refine J_aload_n C 0 dX6_need_48 rfl ?_
              refine J_iload_n C 1 dX6_need_49 rfl ?_
              refine J_iload_n C 2 dX6_need_50 rfl ?_
              refine J_iload_n C 3 dX6_need_51 rfl ?_
              refine J_callV (k := 0) (rest := []) C (m_has3 hG S (n0) (n1) (n2) hk (by omega) (by omega) (by omega)) kc_X6_has_ kl_X6_195 (by rw [hG.2]; decide) (by rw [hG.1]; rfl) rfl dX6_need_52 rfl rfl (by decide) (Nat.le_of_ble_eq_true rfl) (J_kl (fun v11 S11 h11 => ?_))
              obtain ⟨rfl, rfl⟩ := h11
              refine J_goto C 68 dX6_need_55 (by decide) ?_
              exact J_lret R C dX6_need_68 (jPl.mk ⟨by first | (rw [if_neg (by omega)]; done) | (rw [if_pos (by omega), if_pos (by omega)]; done) | (rw [if_pos (by omega), if_neg (by omega)]; done), rfl⟩)
          · refine J_ldc2 (n := -1) C kk_X6_198 dX6_need_38 ?_
            exact J_lret R C dX6_need_41 (jPl.mk ⟨by first | (rw [if_neg (by omega)]; done) | (rw [if_pos (by omega), if_pos (by omega)]; done) | (rw [if_pos (by omega), if_neg (by omega)]; done), rfl⟩)
end
