section
-- ===== PART A: goes FIRST, ahead of the names: the tables' words, and 'selects' of the private methods out of them =====
/-- a private method of a class that the tables say can be made, by its rows of tables_1 -/
def lw_okq (q : MethodName × Nat) : Prop := (q.1.cls ≠ "java/lang/invoke/MethodHandle" ∧ q.1.cls ≠ "java/lang/invoke/VarHandle") ∧ Cond.instantiable q.1.cls q.2 ∈ tables_1 ∧ Cond.privateMethod q.1 ∈ tables_1 ∧ Cond.instanceMethod q.1 ∈ tables_1
theorem lw_p0 : lw_okq (⟨"PlaceRectangles", "beginAnew", "()V"⟩, 5) := ⟨⟨by decide +kernel, by decide +kernel⟩, List.mem_of_getElem? (i := 11) (by decide +kernel), List.mem_of_getElem? (i := 193) (by decide +kernel), List.mem_of_getElem? (i := 194) (by decide +kernel)⟩
theorem lw_p1 : lw_okq (⟨"PlaceRectangles$Search", "orderBoxes", "()V"⟩, 16) := ⟨⟨by decide +kernel, by decide +kernel⟩, List.mem_of_getElem? (i := 51) (by decide +kernel), List.mem_of_getElem? (i := 201) (by decide +kernel), List.mem_of_getElem? (i := 202) (by decide +kernel)⟩
theorem lw_p2 : lw_okq (⟨"PlaceRectangles$Search", "sumsOfOthers", "(II)I"⟩, 16) := ⟨⟨by decide +kernel, by decide +kernel⟩, List.mem_of_getElem? (i := 51) (by decide +kernel), List.mem_of_getElem? (i := 209) (by decide +kernel), List.mem_of_getElem? (i := 210) (by decide +kernel)⟩
theorem lw_p3 : lw_okq (⟨"PlaceRectangles$Search", "withExtents", "(III)I"⟩, 16) := ⟨⟨by decide +kernel, by decide +kernel⟩, List.mem_of_getElem? (i := 51) (by decide +kernel), List.mem_of_getElem? (i := 213) (by decide +kernel), List.mem_of_getElem? (i := 214) (by decide +kernel)⟩
theorem lw_p4 : lw_okq (⟨"PlaceRectangles$Search", "enter", "(I)V"⟩, 16) := ⟨⟨by decide +kernel, by decide +kernel⟩, List.mem_of_getElem? (i := 51) (by decide +kernel), List.mem_of_getElem? (i := 227) (by decide +kernel), List.mem_of_getElem? (i := 228) (by decide +kernel)⟩
theorem lw_p5 : lw_okq (⟨"PlaceRectangles$Search", "lookAlongRow", "()V"⟩, 16) := ⟨⟨by decide +kernel, by decide +kernel⟩, List.mem_of_getElem? (i := 51) (by decide +kernel), List.mem_of_getElem? (i := 295) (by decide +kernel), List.mem_of_getElem? (i := 296) (by decide +kernel)⟩
theorem lw_p6 : lw_okq (⟨"PlaceRectangles$Search", "lookAtBlocked", "()V"⟩, 16) := ⟨⟨by decide +kernel, by decide +kernel⟩, List.mem_of_getElem? (i := 51) (by decide +kernel), List.mem_of_getElem? (i := 305) (by decide +kernel), List.mem_of_getElem? (i := 306) (by decide +kernel)⟩
theorem lw_p7 : lw_okq (⟨"PlaceRectangles$Search", "take", "(I)V"⟩, 16) := ⟨⟨by decide +kernel, by decide +kernel⟩, List.mem_of_getElem? (i := 51) (by decide +kernel), List.mem_of_getElem? (i := 313) (by decide +kernel), List.mem_of_getElem? (i := 314) (by decide +kernel)⟩
theorem lw_p8 : lw_okq (⟨"PlaceRectangles$Search", "setAxis", "(II)V"⟩, 16) := ⟨⟨by decide +kernel, by decide +kernel⟩, List.mem_of_getElem? (i := 51) (by decide +kernel), List.mem_of_getElem? (i := 317) (by decide +kernel), List.mem_of_getElem? (i := 318) (by decide +kernel)⟩
theorem lw_p9 : lw_okq (⟨"PlaceRectangles$Search", "nextRow", "()Z"⟩, 16) := ⟨⟨by decide +kernel, by decide +kernel⟩, List.mem_of_getElem? (i := 51) (by decide +kernel), List.mem_of_getElem? (i := 321) (by decide +kernel), List.mem_of_getElem? (i := 322) (by decide +kernel)⟩
theorem lw_p10 : lw_okq (⟨"PlaceRectangles$Search", "nextTurn", "()V"⟩, 16) := ⟨⟨by decide +kernel, by decide +kernel⟩, List.mem_of_getElem? (i := 51) (by decide +kernel), List.mem_of_getElem? (i := 325) (by decide +kernel), List.mem_of_getElem? (i := 326) (by decide +kernel)⟩
theorem lw_p11 : lw_okq (⟨"PlaceRectangles$Search", "turnTo", "(II)V"⟩, 16) := ⟨⟨by decide +kernel, by decide +kernel⟩, List.mem_of_getElem? (i := 51) (by decide +kernel), List.mem_of_getElem? (i := 343) (by decide +kernel), List.mem_of_getElem? (i := 344) (by decide +kernel)⟩
theorem lw_p12 : lw_okq (⟨"PlaceRectangles$Search", "wayCoordinates", "(III)I"⟩, 16) := ⟨⟨by decide +kernel, by decide +kernel⟩, List.mem_of_getElem? (i := 51) (by decide +kernel), List.mem_of_getElem? (i := 347) (by decide +kernel), List.mem_of_getElem? (i := 348) (by decide +kernel)⟩
theorem lw_p13 : lw_okq (⟨"PlaceRectangles$Search", "nextLayer", "()V"⟩, 16) := ⟨⟨by decide +kernel, by decide +kernel⟩, List.mem_of_getElem? (i := 51) (by decide +kernel), List.mem_of_getElem? (i := 351) (by decide +kernel), List.mem_of_getElem? (i := 352) (by decide +kernel)⟩
theorem lw_p14 : lw_okq (⟨"PlaceRectangles$Search", "blockedInRow", "()I"⟩, 16) := ⟨⟨by decide +kernel, by decide +kernel⟩, List.mem_of_getElem? (i := 51) (by decide +kernel), List.mem_of_getElem? (i := 355) (by decide +kernel), List.mem_of_getElem? (i := 356) (by decide +kernel)⟩
theorem lw_p15 : lw_okq (⟨"PlaceRectangles$Search", "goBack", "()V"⟩, 16) := ⟨⟨by decide +kernel, by decide +kernel⟩, List.mem_of_getElem? (i := 51) (by decide +kernel), List.mem_of_getElem? (i := 362) (by decide +kernel), List.mem_of_getElem? (i := 363) (by decide +kernel)⟩
def lw_privs_1 : List (MethodName × Nat) := [(⟨"PlaceRectangles", "beginAnew", "()V"⟩, 5), (⟨"PlaceRectangles$Search", "orderBoxes", "()V"⟩, 16), (⟨"PlaceRectangles$Search", "sumsOfOthers", "(II)I"⟩, 16), (⟨"PlaceRectangles$Search", "withExtents", "(III)I"⟩, 16), (⟨"PlaceRectangles$Search", "enter", "(I)V"⟩, 16), (⟨"PlaceRectangles$Search", "lookAlongRow", "()V"⟩, 16), (⟨"PlaceRectangles$Search", "lookAtBlocked", "()V"⟩, 16), (⟨"PlaceRectangles$Search", "take", "(I)V"⟩, 16), (⟨"PlaceRectangles$Search", "setAxis", "(II)V"⟩, 16), (⟨"PlaceRectangles$Search", "nextRow", "()Z"⟩, 16), (⟨"PlaceRectangles$Search", "nextTurn", "()V"⟩, 16), (⟨"PlaceRectangles$Search", "turnTo", "(II)V"⟩, 16), (⟨"PlaceRectangles$Search", "wayCoordinates", "(III)I"⟩, 16), (⟨"PlaceRectangles$Search", "nextLayer", "()V"⟩, 16), (⟨"PlaceRectangles$Search", "blockedInRow", "()I"⟩, 16), (⟨"PlaceRectangles$Search", "goBack", "()V"⟩, 16)]
theorem lw_r1 : ∀ q ∈ lw_privs_1, lw_okq q := List.forall_mem_cons.mpr ⟨lw_p0, List.forall_mem_cons.mpr ⟨lw_p1, List.forall_mem_cons.mpr ⟨lw_p2, List.forall_mem_cons.mpr ⟨lw_p3, List.forall_mem_cons.mpr ⟨lw_p4, List.forall_mem_cons.mpr ⟨lw_p5, List.forall_mem_cons.mpr ⟨lw_p6, List.forall_mem_cons.mpr ⟨lw_p7, List.forall_mem_cons.mpr ⟨lw_p8, List.forall_mem_cons.mpr ⟨lw_p9, List.forall_mem_cons.mpr ⟨lw_p10, List.forall_mem_cons.mpr ⟨lw_p11, List.forall_mem_cons.mpr ⟨lw_p12, List.forall_mem_cons.mpr ⟨lw_p13, List.forall_mem_cons.mpr ⟨lw_p14, List.forall_mem_cons.mpr ⟨lw_p15, fun _ h => absurd h List.not_mem_nil⟩⟩⟩⟩⟩⟩⟩⟩⟩⟩⟩⟩⟩⟩⟩⟩
theorem lw_p16 : lw_okq (⟨"PlaceRectangles$Stock", "liesWithin", "(III)Z"⟩, 5) := ⟨⟨by decide +kernel, by decide +kernel⟩, List.mem_of_getElem? (i := 19) (by decide +kernel), List.mem_of_getElem? (i := 396) (by decide +kernel), List.mem_of_getElem? (i := 397) (by decide +kernel)⟩
theorem lw_p17 : lw_okq (⟨"PlaceRectangles$Laid", "commonLength", "(III)I"⟩, 5) := ⟨⟨by decide +kernel, by decide +kernel⟩, List.mem_of_getElem? (i := 111) (by decide +kernel), List.mem_of_getElem? (i := 447) (by decide +kernel), List.mem_of_getElem? (i := 448) (by decide +kernel)⟩
theorem lw_p18 : lw_okq (⟨"PlaceRectangles$Cuts", "write", "(IIIII)V"⟩, 3) := ⟨⟨by decide +kernel, by decide +kernel⟩, List.mem_of_getElem? (i := 138) (by decide +kernel), List.mem_of_getElem? (i := 482) (by decide +kernel), List.mem_of_getElem? (i := 483) (by decide +kernel)⟩
theorem lw_p19 : lw_okq (⟨"PlaceRectangles$Cuts", "axisOfCut", "(I)I"⟩, 3) := ⟨⟨by decide +kernel, by decide +kernel⟩, List.mem_of_getElem? (i := 138) (by decide +kernel), List.mem_of_getElem? (i := 486) (by decide +kernel), List.mem_of_getElem? (i := 487) (by decide +kernel)⟩
theorem lw_p20 : lw_okq (⟨"PlaceRectangles$Cuts", "cutPlaces", "(II)I"⟩, 3) := ⟨⟨by decide +kernel, by decide +kernel⟩, List.mem_of_getElem? (i := 138) (by decide +kernel), List.mem_of_getElem? (i := 490) (by decide +kernel), List.mem_of_getElem? (i := 491) (by decide +kernel)⟩
theorem lw_p21 : lw_okq (⟨"PlaceRectangles$Cuts", "boxesBefore", "(III)I"⟩, 3) := ⟨⟨by decide +kernel, by decide +kernel⟩, List.mem_of_getElem? (i := 138) (by decide +kernel), List.mem_of_getElem? (i := 496) (by decide +kernel), List.mem_of_getElem? (i := 497) (by decide +kernel)⟩
theorem lw_p22 : lw_okq (⟨"PlaceRectangles$Duals", "lastFunction", "(I)I"⟩, 10) := ⟨⟨by decide +kernel, by decide +kernel⟩, List.mem_of_getElem? (i := 155) (by decide +kernel), List.mem_of_getElem? (i := 513) (by decide +kernel), List.mem_of_getElem? (i := 514) (by decide +kernel)⟩
theorem lw_p23 : lw_okq (⟨"PlaceRectangles$Duals", "tellValues", "(I)V"⟩, 10) := ⟨⟨by decide +kernel, by decide +kernel⟩, List.mem_of_getElem? (i := 155) (by decide +kernel), List.mem_of_getElem? (i := 529) (by decide +kernel), List.mem_of_getElem? (i := 530) (by decide +kernel)⟩
theorem lw_p24 : lw_okq (⟨"PlaceRectangles$Duals", "tellTurns", "(II)I"⟩, 10) := ⟨⟨by decide +kernel, by decide +kernel⟩, List.mem_of_getElem? (i := 155) (by decide +kernel), List.mem_of_getElem? (i := 534) (by decide +kernel), List.mem_of_getElem? (i := 535) (by decide +kernel)⟩
theorem lw_p25 : lw_okq (⟨"PlaceRectangles$Duals", "leaveOutIdle", "(I)V"⟩, 10) := ⟨⟨by decide +kernel, by decide +kernel⟩, List.mem_of_getElem? (i := 155) (by decide +kernel), List.mem_of_getElem? (i := 567) (by decide +kernel), List.mem_of_getElem? (i := 568) (by decide +kernel)⟩
theorem lw_p26 : lw_okq (⟨"PlaceRectangles$Duals", "isTried", "(II)Z"⟩, 10) := ⟨⟨by decide +kernel, by decide +kernel⟩, List.mem_of_getElem? (i := 155) (by decide +kernel), List.mem_of_getElem? (i := 571) (by decide +kernel), List.mem_of_getElem? (i := 572) (by decide +kernel)⟩
theorem lw_p27 : lw_okq (⟨"PlaceRectangles$Duals", "givesNoLess", "(III)Z"⟩, 10) := ⟨⟨by decide +kernel, by decide +kernel⟩, List.mem_of_getElem? (i := 155) (by decide +kernel), List.mem_of_getElem? (i := 575) (by decide +kernel), List.mem_of_getElem? (i := 576) (by decide +kernel)⟩
theorem lw_p28 : lw_okq (⟨"PlaceRectangles$Duals", "seekOnLastAxis", "(II)Z"⟩, 10) := ⟨⟨by decide +kernel, by decide +kernel⟩, List.mem_of_getElem? (i := 155) (by decide +kernel), List.mem_of_getElem? (i := 579) (by decide +kernel), List.mem_of_getElem? (i := 580) (by decide +kernel)⟩
theorem lw_p29 : lw_okq (⟨"PlaceRectangles$Duals", "proves", "(II)Z"⟩, 10) := ⟨⟨by decide +kernel, by decide +kernel⟩, List.mem_of_getElem? (i := 155) (by decide +kernel), List.mem_of_getElem? (i := 585) (by decide +kernel), List.mem_of_getElem? (i := 586) (by decide +kernel)⟩
theorem lw_p30 : lw_okq (⟨"PlaceRectangles$Duals", "reason", "(I)I"⟩, 10) := ⟨⟨by decide +kernel, by decide +kernel⟩, List.mem_of_getElem? (i := 155) (by decide +kernel), List.mem_of_getElem? (i := 590) (by decide +kernel), List.mem_of_getElem? (i := 591) (by decide +kernel)⟩
theorem lw_p31 : lw_okq (⟨"PlaceRectangles$Duals", "keep", "(IIII)V"⟩, 10) := ⟨⟨by decide +kernel, by decide +kernel⟩, List.mem_of_getElem? (i := 155) (by decide +kernel), List.mem_of_getElem? (i := 594) (by decide +kernel), List.mem_of_getElem? (i := 595) (by decide +kernel)⟩
def lw_privs_2 : List (MethodName × Nat) := [(⟨"PlaceRectangles$Stock", "liesWithin", "(III)Z"⟩, 5), (⟨"PlaceRectangles$Laid", "commonLength", "(III)I"⟩, 5), (⟨"PlaceRectangles$Cuts", "write", "(IIIII)V"⟩, 3), (⟨"PlaceRectangles$Cuts", "axisOfCut", "(I)I"⟩, 3), (⟨"PlaceRectangles$Cuts", "cutPlaces", "(II)I"⟩, 3), (⟨"PlaceRectangles$Cuts", "boxesBefore", "(III)I"⟩, 3), (⟨"PlaceRectangles$Duals", "lastFunction", "(I)I"⟩, 10), (⟨"PlaceRectangles$Duals", "tellValues", "(I)V"⟩, 10), (⟨"PlaceRectangles$Duals", "tellTurns", "(II)I"⟩, 10), (⟨"PlaceRectangles$Duals", "leaveOutIdle", "(I)V"⟩, 10), (⟨"PlaceRectangles$Duals", "isTried", "(II)Z"⟩, 10), (⟨"PlaceRectangles$Duals", "givesNoLess", "(III)Z"⟩, 10), (⟨"PlaceRectangles$Duals", "seekOnLastAxis", "(II)Z"⟩, 10), (⟨"PlaceRectangles$Duals", "proves", "(II)Z"⟩, 10), (⟨"PlaceRectangles$Duals", "reason", "(I)I"⟩, 10), (⟨"PlaceRectangles$Duals", "keep", "(IIII)V"⟩, 10)]
theorem lw_r2 : ∀ q ∈ lw_privs_2, lw_okq q := List.forall_mem_cons.mpr ⟨lw_p16, List.forall_mem_cons.mpr ⟨lw_p17, List.forall_mem_cons.mpr ⟨lw_p18, List.forall_mem_cons.mpr ⟨lw_p19, List.forall_mem_cons.mpr ⟨lw_p20, List.forall_mem_cons.mpr ⟨lw_p21, List.forall_mem_cons.mpr ⟨lw_p22, List.forall_mem_cons.mpr ⟨lw_p23, List.forall_mem_cons.mpr ⟨lw_p24, List.forall_mem_cons.mpr ⟨lw_p25, List.forall_mem_cons.mpr ⟨lw_p26, List.forall_mem_cons.mpr ⟨lw_p27, List.forall_mem_cons.mpr ⟨lw_p28, List.forall_mem_cons.mpr ⟨lw_p29, List.forall_mem_cons.mpr ⟨lw_p30, List.forall_mem_cons.mpr ⟨lw_p31, fun _ h => absurd h List.not_mem_nil⟩⟩⟩⟩⟩⟩⟩⟩⟩⟩⟩⟩⟩⟩⟩⟩
theorem lw_p32 : lw_okq (⟨"PlaceRectanglesModel", "anew", "()V"⟩, 27) := ⟨⟨by decide +kernel, by decide +kernel⟩, List.mem_of_getElem? (i := 608) (by decide +kernel), List.mem_of_getElem? (i := 614) (by decide +kernel), List.mem_of_getElem? (i := 615) (by decide +kernel)⟩
theorem lw_p33 : lw_okq (⟨"PlaceRectanglesModel", "volume", "(I)I"⟩, 27) := ⟨⟨by decide +kernel, by decide +kernel⟩, List.mem_of_getElem? (i := 608) (by decide +kernel), List.mem_of_getElem? (i := 618) (by decide +kernel), List.mem_of_getElem? (i := 619) (by decide +kernel)⟩
theorem lw_p34 : lw_okq (⟨"PlaceRectanglesModel", "sum", "(II)V"⟩, 27) := ⟨⟨by decide +kernel, by decide +kernel⟩, List.mem_of_getElem? (i := 608) (by decide +kernel), List.mem_of_getElem? (i := 622) (by decide +kernel), List.mem_of_getElem? (i := 623) (by decide +kernel)⟩
theorem lw_p35 : lw_okq (⟨"PlaceRectanglesModel", "has", "(II)Z"⟩, 27) := ⟨⟨by decide +kernel, by decide +kernel⟩, List.mem_of_getElem? (i := 608) (by decide +kernel), List.mem_of_getElem? (i := 626) (by decide +kernel), List.mem_of_getElem? (i := 627) (by decide +kernel)⟩
theorem lw_p36 : lw_okq (⟨"PlaceRectanglesModel", "extent", "(III)I"⟩, 27) := ⟨⟨by decide +kernel, by decide +kernel⟩, List.mem_of_getElem? (i := 608) (by decide +kernel), List.mem_of_getElem? (i := 630) (by decide +kernel), List.mem_of_getElem? (i := 631) (by decide +kernel)⟩
theorem lw_p37 : lw_okq (⟨"PlaceRectanglesModel", "counted", "(III)I"⟩, 27) := ⟨⟨by decide +kernel, by decide +kernel⟩, List.mem_of_getElem? (i := 608) (by decide +kernel), List.mem_of_getElem? (i := 637) (by decide +kernel), List.mem_of_getElem? (i := 638) (by decide +kernel)⟩
theorem lw_p38 : lw_okq (⟨"PlaceRectanglesModel", "isSum", "(III)Z"⟩, 27) := ⟨⟨by decide +kernel, by decide +kernel⟩, List.mem_of_getElem? (i := 608) (by decide +kernel), List.mem_of_getElem? (i := 641) (by decide +kernel), List.mem_of_getElem? (i := 642) (by decide +kernel)⟩
theorem lw_p39 : lw_okq (⟨"PlaceRectanglesModel", "isFirst", "(II)Z"⟩, 27) := ⟨⟨by decide +kernel, by decide +kernel⟩, List.mem_of_getElem? (i := 608) (by decide +kernel), List.mem_of_getElem? (i := 645) (by decide +kernel), List.mem_of_getElem? (i := 646) (by decide +kernel)⟩
theorem lw_p40 : lw_okq (⟨"PlaceRectanglesModel", "many", "(III)I"⟩, 27) := ⟨⟨by decide +kernel, by decide +kernel⟩, List.mem_of_getElem? (i := 608) (by decide +kernel), List.mem_of_getElem? (i := 649) (by decide +kernel), List.mem_of_getElem? (i := 650) (by decide +kernel)⟩
theorem lw_p41 : lw_okq (⟨"PlaceRectanglesModel", "ways", "(I)I"⟩, 27) := ⟨⟨by decide +kernel, by decide +kernel⟩, List.mem_of_getElem? (i := 608) (by decide +kernel), List.mem_of_getElem? (i := 740) (by decide +kernel), List.mem_of_getElem? (i := 741) (by decide +kernel)⟩
theorem lw_p42 : lw_okq (⟨"PlaceRectanglesModel", "waysOf", "(II)I"⟩, 27) := ⟨⟨by decide +kernel, by decide +kernel⟩, List.mem_of_getElem? (i := 608) (by decide +kernel), List.mem_of_getElem? (i := 744) (by decide +kernel), List.mem_of_getElem? (i := 745) (by decide +kernel)⟩
theorem lw_p43 : lw_okq (⟨"PlaceRectanglesModel", "goes", "(II)V"⟩, 27) := ⟨⟨by decide +kernel, by decide +kernel⟩, List.mem_of_getElem? (i := 608) (by decide +kernel), List.mem_of_getElem? (i := 748) (by decide +kernel), List.mem_of_getElem? (i := 749) (by decide +kernel)⟩
theorem lw_p44 : lw_okq (⟨"PlaceRectanglesModel", "coordinate", "(III)I"⟩, 27) := ⟨⟨by decide +kernel, by decide +kernel⟩, List.mem_of_getElem? (i := 608) (by decide +kernel), List.mem_of_getElem? (i := 752) (by decide +kernel), List.mem_of_getElem? (i := 753) (by decide +kernel)⟩
theorem lw_p45 : lw_okq (⟨"PlaceRectanglesModel", "isPlanned", "(I)Z"⟩, 27) := ⟨⟨by decide +kernel, by decide +kernel⟩, List.mem_of_getElem? (i := 608) (by decide +kernel), List.mem_of_getElem? (i := 756) (by decide +kernel), List.mem_of_getElem? (i := 757) (by decide +kernel)⟩
theorem lw_p46 : lw_okq (⟨"PlaceRectanglesModel", "isApart", "(IIII)Z"⟩, 27) := ⟨⟨by decide +kernel, by decide +kernel⟩, List.mem_of_getElem? (i := 608) (by decide +kernel), List.mem_of_getElem? (i := 760) (by decide +kernel), List.mem_of_getElem? (i := 761) (by decide +kernel)⟩
theorem lw_p47 : lw_okq (⟨"PlaceRectanglesModel", "isBox", "(I)Z"⟩, 27) := ⟨⟨by decide +kernel, by decide +kernel⟩, List.mem_of_getElem? (i := 608) (by decide +kernel), List.mem_of_getElem? (i := 779) (by decide +kernel), List.mem_of_getElem? (i := 780) (by decide +kernel)⟩
def lw_privs_3 : List (MethodName × Nat) := [(⟨"PlaceRectanglesModel", "anew", "()V"⟩, 27), (⟨"PlaceRectanglesModel", "volume", "(I)I"⟩, 27), (⟨"PlaceRectanglesModel", "sum", "(II)V"⟩, 27), (⟨"PlaceRectanglesModel", "has", "(II)Z"⟩, 27), (⟨"PlaceRectanglesModel", "extent", "(III)I"⟩, 27), (⟨"PlaceRectanglesModel", "counted", "(III)I"⟩, 27), (⟨"PlaceRectanglesModel", "isSum", "(III)Z"⟩, 27), (⟨"PlaceRectanglesModel", "isFirst", "(II)Z"⟩, 27), (⟨"PlaceRectanglesModel", "many", "(III)I"⟩, 27), (⟨"PlaceRectanglesModel", "ways", "(I)I"⟩, 27), (⟨"PlaceRectanglesModel", "waysOf", "(II)I"⟩, 27), (⟨"PlaceRectanglesModel", "goes", "(II)V"⟩, 27), (⟨"PlaceRectanglesModel", "coordinate", "(III)I"⟩, 27), (⟨"PlaceRectanglesModel", "isPlanned", "(I)Z"⟩, 27), (⟨"PlaceRectanglesModel", "isApart", "(IIII)Z"⟩, 27), (⟨"PlaceRectanglesModel", "isBox", "(I)Z"⟩, 27)]
theorem lw_r3 : ∀ q ∈ lw_privs_3, lw_okq q := List.forall_mem_cons.mpr ⟨lw_p32, List.forall_mem_cons.mpr ⟨lw_p33, List.forall_mem_cons.mpr ⟨lw_p34, List.forall_mem_cons.mpr ⟨lw_p35, List.forall_mem_cons.mpr ⟨lw_p36, List.forall_mem_cons.mpr ⟨lw_p37, List.forall_mem_cons.mpr ⟨lw_p38, List.forall_mem_cons.mpr ⟨lw_p39, List.forall_mem_cons.mpr ⟨lw_p40, List.forall_mem_cons.mpr ⟨lw_p41, List.forall_mem_cons.mpr ⟨lw_p42, List.forall_mem_cons.mpr ⟨lw_p43, List.forall_mem_cons.mpr ⟨lw_p44, List.forall_mem_cons.mpr ⟨lw_p45, List.forall_mem_cons.mpr ⟨lw_p46, List.forall_mem_cons.mpr ⟨lw_p47, fun _ h => absurd h List.not_mem_nil⟩⟩⟩⟩⟩⟩⟩⟩⟩⟩⟩⟩⟩⟩⟩⟩
theorem lw_p48 : lw_okq (⟨"PlaceRectanglesModel", "isPlace", "(IIIII)Z"⟩, 27) := ⟨⟨by decide +kernel, by decide +kernel⟩, List.mem_of_getElem? (i := 608) (by decide +kernel), List.mem_of_getElem? (i := 803) (by decide +kernel), List.mem_of_getElem? (i := 804) (by decide +kernel)⟩
theorem lw_p49 : lw_okq (⟨"PlaceRectanglesModel", "apart", "(II)I"⟩, 27) := ⟨⟨by decide +kernel, by decide +kernel⟩, List.mem_of_getElem? (i := 608) (by decide +kernel), List.mem_of_getElem? (i := 811) (by decide +kernel), List.mem_of_getElem? (i := 812) (by decide +kernel)⟩
theorem lw_p50 : lw_okq (⟨"PlaceRectanglesModel", "end", "(II)I"⟩, 27) := ⟨⟨by decide +kernel, by decide +kernel⟩, List.mem_of_getElem? (i := 608) (by decide +kernel), List.mem_of_getElem? (i := 815) (by decide +kernel), List.mem_of_getElem? (i := 816) (by decide +kernel)⟩
theorem lw_p51 : lw_okq (⟨"PlaceRectanglesModel", "begin", "(II)I"⟩, 27) := ⟨⟨by decide +kernel, by decide +kernel⟩, List.mem_of_getElem? (i := 608) (by decide +kernel), List.mem_of_getElem? (i := 819) (by decide +kernel), List.mem_of_getElem? (i := 820) (by decide +kernel)⟩
theorem lw_p52 : lw_okq (⟨"PlaceRectanglesModel", "common", "(III)I"⟩, 27) := ⟨⟨by decide +kernel, by decide +kernel⟩, List.mem_of_getElem? (i := 608) (by decide +kernel), List.mem_of_getElem? (i := 840) (by decide +kernel), List.mem_of_getElem? (i := 841) (by decide +kernel)⟩
theorem lw_p53 : lw_okq (⟨"PlaceRectanglesModel", "planted", "()I"⟩, 27) := ⟨⟨by decide +kernel, by decide +kernel⟩, List.mem_of_getElem? (i := 608) (by decide +kernel), List.mem_of_getElem? (i := 852) (by decide +kernel), List.mem_of_getElem? (i := 853) (by decide +kernel)⟩
theorem lw_p54 : lw_okq (⟨"PlaceRectanglesModel", "cutOf", "(I)I"⟩, 27) := ⟨⟨by decide +kernel, by decide +kernel⟩, List.mem_of_getElem? (i := 608) (by decide +kernel), List.mem_of_getElem? (i := 859) (by decide +kernel), List.mem_of_getElem? (i := 860) (by decide +kernel)⟩
theorem lw_p55 : lw_okq (⟨"PlaceRectanglesModel", "before", "(III)I"⟩, 27) := ⟨⟨by decide +kernel, by decide +kernel⟩, List.mem_of_getElem? (i := 608) (by decide +kernel), List.mem_of_getElem? (i := 863) (by decide +kernel), List.mem_of_getElem? (i := 864) (by decide +kernel)⟩
theorem lw_p56 : lw_okq (⟨"PlaceRectanglesModel", "isDual", "(II)Z"⟩, 27) := ⟨⟨by decide +kernel, by decide +kernel⟩, List.mem_of_getElem? (i := 608) (by decide +kernel), List.mem_of_getElem? (i := 875) (by decide +kernel), List.mem_of_getElem? (i := 876) (by decide +kernel)⟩
theorem lw_p57 : lw_okq (⟨"PlaceRectanglesModel", "has", "(III)J"⟩, 27) := ⟨⟨by decide +kernel, by decide +kernel⟩, List.mem_of_getElem? (i := 608) (by decide +kernel), List.mem_of_getElem? (i := 887) (by decide +kernel), List.mem_of_getElem? (i := 888) (by decide +kernel)⟩
theorem lw_p58 : lw_okq (⟨"PlaceRectanglesModel", "needs", "(IIII)J"⟩, 27) := ⟨⟨by decide +kernel, by decide +kernel⟩, List.mem_of_getElem? (i := 608) (by decide +kernel), List.mem_of_getElem? (i := 891) (by decide +kernel), List.mem_of_getElem? (i := 892) (by decide +kernel)⟩
theorem lw_p59 : lw_okq (⟨"PlaceRectanglesModel", "prove", "()V"⟩, 27) := ⟨⟨by decide +kernel, by decide +kernel⟩, List.mem_of_getElem? (i := 608) (by decide +kernel), List.mem_of_getElem? (i := 899) (by decide +kernel), List.mem_of_getElem? (i := 900) (by decide +kernel)⟩
theorem lw_p60 : lw_okq (⟨"PlaceRectanglesModel", "isPossible", "(IIIIII)Z"⟩, 27) := ⟨⟨by decide +kernel, by decide +kernel⟩, List.mem_of_getElem? (i := 608) (by decide +kernel), List.mem_of_getElem? (i := 907) (by decide +kernel), List.mem_of_getElem? (i := 908) (by decide +kernel)⟩
def lw_privs_4 : List (MethodName × Nat) := [(⟨"PlaceRectanglesModel", "isPlace", "(IIIII)Z"⟩, 27), (⟨"PlaceRectanglesModel", "apart", "(II)I"⟩, 27), (⟨"PlaceRectanglesModel", "end", "(II)I"⟩, 27), (⟨"PlaceRectanglesModel", "begin", "(II)I"⟩, 27), (⟨"PlaceRectanglesModel", "common", "(III)I"⟩, 27), (⟨"PlaceRectanglesModel", "planted", "()I"⟩, 27), (⟨"PlaceRectanglesModel", "cutOf", "(I)I"⟩, 27), (⟨"PlaceRectanglesModel", "before", "(III)I"⟩, 27), (⟨"PlaceRectanglesModel", "isDual", "(II)Z"⟩, 27), (⟨"PlaceRectanglesModel", "has", "(III)J"⟩, 27), (⟨"PlaceRectanglesModel", "needs", "(IIII)J"⟩, 27), (⟨"PlaceRectanglesModel", "prove", "()V"⟩, 27), (⟨"PlaceRectanglesModel", "isPossible", "(IIIIII)Z"⟩, 27)]
theorem lw_r4 : ∀ q ∈ lw_privs_4, lw_okq q := List.forall_mem_cons.mpr ⟨lw_p48, List.forall_mem_cons.mpr ⟨lw_p49, List.forall_mem_cons.mpr ⟨lw_p50, List.forall_mem_cons.mpr ⟨lw_p51, List.forall_mem_cons.mpr ⟨lw_p52, List.forall_mem_cons.mpr ⟨lw_p53, List.forall_mem_cons.mpr ⟨lw_p54, List.forall_mem_cons.mpr ⟨lw_p55, List.forall_mem_cons.mpr ⟨lw_p56, List.forall_mem_cons.mpr ⟨lw_p57, List.forall_mem_cons.mpr ⟨lw_p58, List.forall_mem_cons.mpr ⟨lw_p59, List.forall_mem_cons.mpr ⟨lw_p60, fun _ h => absurd h List.not_mem_nil⟩⟩⟩⟩⟩⟩⟩⟩⟩⟩⟩⟩⟩
def lw_privs : List (MethodName × Nat) := lw_privs_1 ++ (lw_privs_2 ++ (lw_privs_3 ++ (lw_privs_4)))
def lw_tbl : List Cond := k2_sels lw_privs ++ tables_1
theorem lw_privs_ok : ∀ q ∈ lw_privs, lw_okq q := by
  show ∀ q ∈ lw_privs_1 ++ (lw_privs_2 ++ (lw_privs_3 ++ (lw_privs_4))), lw_okq q
  exact List.forall_mem_append.mpr ⟨lw_r1, List.forall_mem_append.mpr ⟨lw_r2, List.forall_mem_append.mpr ⟨lw_r3, lw_r4⟩⟩⟩
end
section
def RX0 : String := "PlaceRectangles$Cuts"
def TX0 : u_T := fun k => match k with
  | 0 => ("PlaceRectangles$Cuts", "laid", "LPlaceRectangles$Laid;", true)
  | 1 => ("PlaceRectangles$Cuts", "nodes", "[I", true)
  | _ => ("PlaceRectangles$Cuts", "pending", "[I", true)
def tyX0 : Nat → FieldType := fun k => match k with
  | 0 => .object "PlaceRectangles$Laid"
  | 1 => .array .int
  | _ => .array .int
abbrev wsX00 : List Cond := u_ws RX0 TX0 3
theorem nmX0 : ∀ a, a < 3 → ∀ b, b < 3 → a ≠ b → (TX0 a).2.1 ≠ (TX0 b).2.1 := by decide +kernel
theorem tyX0_ok : ∀ k, k < 3 → parseFieldDescriptor (TX0 k).2.2.1 = some (tyX0 k) := by decide +kernel
abbrev cX0_init : ByteArray := prog_2_method_1_code
def yX0_init : MethodName := ⟨RX0, "<init>", "(LPlaceRectangles$Laid;)V"⟩
abbrev cX0_build : ByteArray := prog_2_method_2_code
def yX0_build : MethodName := ⟨RX0, "build", "()I"⟩
abbrev cX0_write : ByteArray := prog_2_method_3_code
def yX0_write : MethodName := ⟨RX0, "write", "(IIIII)V"⟩
abbrev cX0_axisOfCut : ByteArray := prog_2_method_4_code
def yX0_axisOfCut : MethodName := ⟨RX0, "axisOfCut", "(I)I"⟩
abbrev cX0_cutPlaces : ByteArray := prog_2_method_5_code
def yX0_cutPlaces : MethodName := ⟨RX0, "cutPlaces", "(II)I"⟩
abbrev cX0_boxesBefore : ByteArray := prog_2_method_6_code
def yX0_boxesBefore : MethodName := ⟨RX0, "boxesBefore", "(III)I"⟩
def RX1 : String := "PlaceRectangles$Duals"
def TX1 : u_T := fun k => match k with
  | 0 => ("PlaceRectangles$Duals", "stock", "LPlaceRectangles$Stock;", true)
  | 1 => ("PlaceRectangles$Duals", "found", "[I", true)
  | 2 => ("PlaceRectangles$Duals", "values", "[I", true)
  | 3 => ("PlaceRectangles$Duals", "extents", "[I", true)
  | 4 => ("PlaceRectangles$Duals", "firstTurn", "[I", true)
  | 5 => ("PlaceRectangles$Duals", "areas", "[I", true)
  | 6 => ("PlaceRectangles$Duals", "binArea", "I", false)
  | 7 => ("PlaceRectangles$Duals", "tried", "[I", true)
  | 8 => ("PlaceRectangles$Duals", "prepared", "Z", false)
  | _ => ("PlaceRectangles$Duals", "sought", "Z", false)
def tyX1 : Nat → FieldType := fun k => match k with
  | 0 => .object "PlaceRectangles$Stock"
  | 1 => .array .int
  | 2 => .array .int
  | 3 => .array .int
  | 4 => .array .int
  | 5 => .array .int
  | 6 => .int
  | 7 => .array .int
  | 8 => .boolean
  | _ => .boolean
abbrev wsX10 : List Cond := u_ws RX1 TX1 10
theorem nmX1 : ∀ a, a < 10 → ∀ b, b < 10 → a ≠ b → (TX1 a).2.1 ≠ (TX1 b).2.1 := by decide +kernel
theorem tyX1_ok : ∀ k, k < 10 → parseFieldDescriptor (TX1 k).2.2.1 = some (tyX1 k) := by decide +kernel
abbrev cX1_init : ByteArray := prog_3_method_1_code
def yX1_init : MethodName := ⟨RX1, "<init>", "(LPlaceRectangles$Stock;)V"⟩
abbrev cX1_forget : ByteArray := prog_3_method_2_code
def yX1_forget : MethodName := ⟨RX1, "forget", "()V"⟩
abbrev cX1_lastFunction : ByteArray := prog_3_method_3_code
def yX1_lastFunction : MethodName := ⟨RX1, "lastFunction", "(I)I"⟩
abbrev cX1_isFunction : ByteArray := prog_3_method_4_code
def yX1_isFunction : MethodName := ⟨RX1, "isFunction", "(II)Z"⟩
abbrev cX1_valueOf : ByteArray := prog_3_method_5_code
def yX1_valueOf : MethodName := ⟨RX1, "valueOf", "(III)I"⟩
abbrev cX1_prepare : ByteArray := prog_3_method_6_code
def yX1_prepare : MethodName := ⟨RX1, "prepare", "()V"⟩
abbrev cX1_tellValues : ByteArray := prog_3_method_7_code
def yX1_tellValues : MethodName := ⟨RX1, "tellValues", "(I)V"⟩
abbrev cX1_tellTurns : ByteArray := prog_3_method_8_code
def yX1_tellTurns : MethodName := ⟨RX1, "tellTurns", "(II)I"⟩
abbrev cX1_choose : ByteArray := prog_3_method_9_code
def yX1_choose : MethodName := ⟨RX1, "choose", "(II)V"⟩
abbrev cX1_binHas : ByteArray := prog_3_method_10_code
def yX1_binHas : MethodName := ⟨RX1, "binHas", "(I)I"⟩
abbrev cX1_needOf : ByteArray := prog_3_method_11_code
def yX1_needOf : MethodName := ⟨RX1, "needOf", "(II)I"⟩
abbrev cX1_proves : ByteArray := prog_3_method_12_code
def yX1_proves : MethodName := ⟨RX1, "proves", "(II)Z"⟩
abbrev cX1_seekProof : ByteArray := prog_3_method_13_code
def yX1_seekProof : MethodName := ⟨RX1, "seekProof", "()V"⟩
abbrev cX1_seekOnLastAxis : ByteArray := prog_3_method_14_code
def yX1_seekOnLastAxis : MethodName := ⟨RX1, "seekOnLastAxis", "(II)Z"⟩
abbrev cX1_isTried : ByteArray := prog_3_method_15_code
def yX1_isTried : MethodName := ⟨RX1, "isTried", "(II)Z"⟩
abbrev cX1_leaveOutIdle : ByteArray := prog_3_method_16_code
def yX1_leaveOutIdle : MethodName := ⟨RX1, "leaveOutIdle", "(I)V"⟩
abbrev cX1_givesNoLess : ByteArray := prog_3_method_17_code
def yX1_givesNoLess : MethodName := ⟨RX1, "givesNoLess", "(III)Z"⟩
abbrev cX1_keep : ByteArray := prog_3_method_18_code
def yX1_keep : MethodName := ⟨RX1, "keep", "(IIII)V"⟩
abbrev cX1_reason : ByteArray := prog_3_method_19_code
def yX1_reason : MethodName := ⟨RX1, "reason", "(I)I"⟩
def RX2 : String := "PlaceRectangles$Laid"
def TX2 : u_T := fun k => match k with
  | 0 => ("PlaceRectangles$Laid", "stock", "LPlaceRectangles$Stock;", true)
  | 1 => ("PlaceRectangles$Laid", "turnOf", "[I", true)
  | 2 => ("PlaceRectangles$Laid", "begins", "[I", true)
  | 3 => ("PlaceRectangles$Laid", "ends", "[I", true)
  | _ => ("PlaceRectangles$Laid", "members", "I", false)
def tyX2 : Nat → FieldType := fun k => match k with
  | 0 => .object "PlaceRectangles$Stock"
  | 1 => .array .int
  | 2 => .array .int
  | 3 => .array .int
  | _ => .int
abbrev wsX20 : List Cond := u_ws RX2 TX2 5
theorem nmX2 : ∀ a, a < 5 → ∀ b, b < 5 → a ≠ b → (TX2 a).2.1 ≠ (TX2 b).2.1 := by decide +kernel
theorem tyX2_ok : ∀ k, k < 5 → parseFieldDescriptor (TX2 k).2.2.1 = some (tyX2 k) := by decide +kernel
abbrev cX2_init : ByteArray := prog_4_method_1_code
def yX2_init : MethodName := ⟨RX2, "<init>", "(LPlaceRectangles$Stock;)V"⟩
abbrev cX2_holds : ByteArray := prog_4_method_2_code
def yX2_holds : MethodName := ⟨RX2, "holds", "(I)Z"⟩
abbrev cX2_takeAway : ByteArray := prog_4_method_3_code
def yX2_takeAway : MethodName := ⟨RX2, "takeAway", "(I)V"⟩
abbrev cX2_takeAllAway : ByteArray := prog_4_method_4_code
def yX2_takeAllAway : MethodName := ⟨RX2, "takeAllAway", "()V"⟩
abbrev cX2_put : ByteArray := prog_4_method_5_code
def yX2_put : MethodName := ⟨RX2, "put", "(IIIII)V"⟩
abbrev cX2_extentOf : ByteArray := prog_4_method_6_code
def yX2_extentOf : MethodName := ⟨RX2, "extentOf", "(II)I"⟩
abbrev cX2_overlapCount : ByteArray := prog_4_method_7_code
def yX2_overlapCount : MethodName := ⟨RX2, "overlapCount", "()I"⟩
abbrev cX2_firstGap : ByteArray := prog_4_method_8_code
def yX2_firstGap : MethodName := ⟨RX2, "firstGap", "(II)I"⟩
abbrev cX2_heldArea : ByteArray := prog_4_method_9_code
def yX2_heldArea : MethodName := ⟨RX2, "heldArea", "(I)I"⟩
abbrev cX2_commonLength : ByteArray := prog_4_method_10_code
def yX2_commonLength : MethodName := ⟨RX2, "commonLength", "(III)I"⟩
abbrev cX2_weightSum : ByteArray := prog_4_method_11_code
def yX2_weightSum : MethodName := ⟨RX2, "weightSum", "()I"⟩
abbrev cX2_doubledMoment : ByteArray := prog_4_method_12_code
def yX2_doubledMoment : MethodName := ⟨RX2, "doubledMoment", "(I)I"⟩
def RX3 : String := "PlaceRectangles$Search"
def TX3 : u_T := fun k => match k with
  | 0 => ("PlaceRectangles$Search", "stock", "LPlaceRectangles$Stock;", true)
  | 1 => ("PlaceRectangles$Search", "order", "[I", true)
  | 2 => ("PlaceRectangles$Search", "coordinates", "[I", true)
  | 3 => ("PlaceRectangles$Search", "turnAt", "[I", true)
  | 4 => ("PlaceRectangles$Search", "turnExtents", "[I", true)
  | 5 => ("PlaceRectangles$Search", "turnCoordinates", "[I", true)
  | 6 => ("PlaceRectangles$Search", "begins", "[I", true)
  | 7 => ("PlaceRectangles$Search", "ends", "[I", true)
  | 8 => ("PlaceRectangles$Search", "layersLeft", "[I", true)
  | 9 => ("PlaceRectangles$Search", "rowsLeft", "[I", true)
  | 10 => ("PlaceRectangles$Search", "waysLeft", "[I", true)
  | 11 => ("PlaceRectangles$Search", "freeLeft", "[I", true)
  | 12 => ("PlaceRectangles$Search", "depth", "I", false)
  | 13 => ("PlaceRectangles$Search", "workLeft", "I", false)
  | 14 => ("PlaceRectangles$Search", "workDone", "I", false)
  | _ => ("PlaceRectangles$Search", "outcome", "I", false)
def tyX3 : Nat → FieldType := fun k => match k with
  | 0 => .object "PlaceRectangles$Stock"
  | 1 => .array .int
  | 2 => .array .int
  | 3 => .array .int
  | 4 => .array .int
  | 5 => .array .int
  | 6 => .array .int
  | 7 => .array .int
  | 8 => .array .int
  | 9 => .array .int
  | 10 => .array .int
  | 11 => .array .int
  | 12 => .int
  | 13 => .int
  | 14 => .int
  | _ => .int
abbrev wsX30 : List Cond := u_ws RX3 TX3 16
theorem nmX3 : ∀ a, a < 16 → ∀ b, b < 16 → a ≠ b → (TX3 a).2.1 ≠ (TX3 b).2.1 := by decide +kernel
theorem tyX3_ok : ∀ k, k < 16 → parseFieldDescriptor (TX3 k).2.2.1 = some (tyX3 k) := by decide +kernel
abbrev cX3_init : ByteArray := prog_5_method_1_code
def yX3_init : MethodName := ⟨RX3, "<init>", "(LPlaceRectangles$Stock;)V"⟩
abbrev cX3_restart : ByteArray := prog_5_method_2_code
def yX3_restart : MethodName := ⟨RX3, "restart", "()V"⟩
abbrev cX3_orderBoxes : ByteArray := prog_5_method_3_code
def yX3_orderBoxes : MethodName := ⟨RX3, "orderBoxes", "()V"⟩
abbrev cX3_sumsOfOthers : ByteArray := prog_5_method_4_code
def yX3_sumsOfOthers : MethodName := ⟨RX3, "sumsOfOthers", "(II)I"⟩
abbrev cX3_withExtents : ByteArray := prog_5_method_5_code
def yX3_withExtents : MethodName := ⟨RX3, "withExtents", "(III)I"⟩
abbrev cX3_coordinateCount : ByteArray := prog_5_method_6_code
def yX3_coordinateCount : MethodName := ⟨RX3, "coordinateCount", "(II)I"⟩
abbrev cX3_wayCount : ByteArray := prog_5_method_7_code
def yX3_wayCount : MethodName := ⟨RX3, "wayCount", "(I)I"⟩
abbrev cX3_wayCoordinates : ByteArray := prog_5_method_8_code
def yX3_wayCoordinates : MethodName := ⟨RX3, "wayCoordinates", "(III)I"⟩
abbrev cX3_goOn : ByteArray := prog_5_method_9_code
def yX3_goOn : MethodName := ⟨RX3, "goOn", "(I)I"⟩
abbrev cX3_enter : ByteArray := prog_5_method_10_code
def yX3_enter : MethodName := ⟨RX3, "enter", "(I)V"⟩
abbrev cX3_goBack : ByteArray := prog_5_method_11_code
def yX3_goBack : MethodName := ⟨RX3, "goBack", "()V"⟩
abbrev cX3_nextRow : ByteArray := prog_5_method_12_code
def yX3_nextRow : MethodName := ⟨RX3, "nextRow", "()Z"⟩
abbrev cX3_nextLayer : ByteArray := prog_5_method_13_code
def yX3_nextLayer : MethodName := ⟨RX3, "nextLayer", "()V"⟩
abbrev cX3_nextTurn : ByteArray := prog_5_method_14_code
def yX3_nextTurn : MethodName := ⟨RX3, "nextTurn", "()V"⟩
abbrev cX3_turnTo : ByteArray := prog_5_method_15_code
def yX3_turnTo : MethodName := ⟨RX3, "turnTo", "(II)V"⟩
abbrev cX3_setAxis : ByteArray := prog_5_method_16_code
def yX3_setAxis : MethodName := ⟨RX3, "setAxis", "(II)V"⟩
abbrev cX3_blockedInRow : ByteArray := prog_5_method_17_code
def yX3_blockedInRow : MethodName := ⟨RX3, "blockedInRow", "()I"⟩
abbrev cX3_lookAlongRow : ByteArray := prog_5_method_18_code
def yX3_lookAlongRow : MethodName := ⟨RX3, "lookAlongRow", "()V"⟩
abbrev cX3_lookAtBlocked : ByteArray := prog_5_method_19_code
def yX3_lookAtBlocked : MethodName := ⟨RX3, "lookAtBlocked", "()V"⟩
abbrev cX3_take : ByteArray := prog_5_method_20_code
def yX3_take : MethodName := ⟨RX3, "take", "(I)V"⟩
def RX4 : String := "PlaceRectangles$Stock"
def TX4 : u_T := fun k => match k with
  | 0 => ("PlaceRectangles$Stock", "lengths", "[I", true)
  | 1 => ("PlaceRectangles$Stock", "sides", "[I", true)
  | 2 => ("PlaceRectangles$Stock", "turnBits", "[I", true)
  | 3 => ("PlaceRectangles$Stock", "weights", "[I", true)
  | _ => ("PlaceRectangles$Stock", "count", "I", false)
def tyX4 : Nat → FieldType := fun k => match k with
  | 0 => .array .int
  | 1 => .array .int
  | 2 => .array .int
  | 3 => .array .int
  | _ => .int
abbrev wsX40 : List Cond := u_ws RX4 TX4 5
theorem nmX4 : ∀ a, a < 5 → ∀ b, b < 5 → a ≠ b → (TX4 a).2.1 ≠ (TX4 b).2.1 := by decide +kernel
theorem tyX4_ok : ∀ k, k < 5 → parseFieldDescriptor (TX4 k).2.2.1 = some (tyX4 k) := by decide +kernel
abbrev cX4_init : ByteArray := prog_6_method_1_code
def yX4_init : MethodName := ⟨RX4, "<init>", "()V"⟩
abbrev cX4_append : ByteArray := prog_6_method_2_code
def yX4_append : MethodName := ⟨RX4, "append", "(III)V"⟩
abbrev cX4_isBox : ByteArray := prog_6_method_3_code
def yX4_isBox : MethodName := ⟨RX4, "isBox", "(I)Z"⟩
abbrev cX4_allBoxes : ByteArray := prog_6_method_4_code
def yX4_allBoxes : MethodName := ⟨RX4, "allBoxes", "()I"⟩
abbrev cX4_extent : ByteArray := prog_6_method_5_code
def yX4_extent : MethodName := ⟨RX4, "extent", "(III)I"⟩
abbrev cX4_volume : ByteArray := prog_6_method_6_code
def yX4_volume : MethodName := ⟨RX4, "volume", "(I)I"⟩
abbrev cX4_hasTurn : ByteArray := prog_6_method_7_code
def yX4_hasTurn : MethodName := ⟨RX4, "hasTurn", "(II)Z"⟩
abbrev cX4_sameExtents : ByteArray := prog_6_method_8_code
def yX4_sameExtents : MethodName := ⟨RX4, "sameExtents", "(III)Z"⟩
abbrev cX4_isShort : ByteArray := prog_6_method_9_code
def yX4_isShort : MethodName := ⟨RX4, "isShort", "(II)Z"⟩
abbrev cX4_counts : ByteArray := prog_6_method_10_code
def yX4_counts : MethodName := ⟨RX4, "counts", "(II)Z"⟩
abbrev cX4_isPlace : ByteArray := prog_6_method_11_code
def yX4_isPlace : MethodName := ⟨RX4, "isPlace", "(IIIII)Z"⟩
abbrev cX4_liesWithin : ByteArray := prog_6_method_12_code
def yX4_liesWithin : MethodName := ⟨RX4, "liesWithin", "(III)Z"⟩
abbrev cX4_hasRoomBeside : ByteArray := prog_6_method_13_code
def yX4_hasRoomBeside : MethodName := ⟨RX4, "hasRoomBeside", "(IIIIII)Z"⟩
def RX5 : String := "PlaceRectangles"
def TX5 : u_T := fun k => match k with
  | 0 => ("PlaceRectangles", "stock", "LPlaceRectangles$Stock;", true)
  | 1 => ("PlaceRectangles", "search", "LPlaceRectangles$Search;", true)
  | 2 => ("PlaceRectangles", "laid", "LPlaceRectangles$Laid;", true)
  | 3 => ("PlaceRectangles", "cuts", "LPlaceRectangles$Cuts;", true)
  | _ => ("PlaceRectangles", "duals", "LPlaceRectangles$Duals;", true)
def tyX5 : Nat → FieldType := fun k => match k with
  | 0 => .object "PlaceRectangles$Stock"
  | 1 => .object "PlaceRectangles$Search"
  | 2 => .object "PlaceRectangles$Laid"
  | 3 => .object "PlaceRectangles$Cuts"
  | _ => .object "PlaceRectangles$Duals"
abbrev wsX50 : List Cond := u_ws RX5 TX5 5
theorem nmX5 : ∀ a, a < 5 → ∀ b, b < 5 → a ≠ b → (TX5 a).2.1 ≠ (TX5 b).2.1 := by decide +kernel
theorem tyX5_ok : ∀ k, k < 5 → parseFieldDescriptor (TX5 k).2.2.1 = some (tyX5 k) := by decide +kernel
abbrev cX5_init : ByteArray := prog_1_method_1_code
def yX5_init : MethodName := ⟨RX5, "<init>", "()V"⟩
abbrev cX5_bin : ByteArray := prog_1_method_2_code
def yX5_bin : MethodName := ⟨RX5, "bin", "(III)I"⟩
abbrev cX5_box : ByteArray := prog_1_method_3_code
def yX5_box : MethodName := ⟨RX5, "box", "(III)I"⟩
abbrev cX5_turns : ByteArray := prog_1_method_4_code
def yX5_turns : MethodName := ⟨RX5, "turns", "(II)I"⟩
abbrev cX5_weight : ByteArray := prog_1_method_5_code
def yX5_weight : MethodName := ⟨RX5, "weight", "(II)I"⟩
abbrev cX5_clear : ByteArray := prog_1_method_6_code
def yX5_clear : MethodName := ⟨RX5, "clear", "()I"⟩
abbrev cX5_run : ByteArray := prog_1_method_7_code
def yX5_run : MethodName := ⟨RX5, "run", "(I)I"⟩
abbrev cX5_told : ByteArray := prog_1_method_8_code
def yX5_told : MethodName := ⟨RX5, "told", "(II)I"⟩
abbrev cX5_plan : ByteArray := prog_1_method_9_code
def yX5_plan : MethodName := ⟨RX5, "plan", "()I"⟩
abbrev cX5_lay : ByteArray := prog_1_method_10_code
def yX5_lay : MethodName := ⟨RX5, "lay", "(IIIII)I"⟩
abbrev cX5_lift : ByteArray := prog_1_method_11_code
def yX5_lift : MethodName := ⟨RX5, "lift", "(I)I"⟩
abbrev cX5_place : ByteArray := prog_1_method_12_code
def yX5_place : MethodName := ⟨RX5, "place", "(II)I"⟩
abbrev cX5_overlaps : ByteArray := prog_1_method_13_code
def yX5_overlaps : MethodName := ⟨RX5, "overlaps", "()I"⟩
abbrev cX5_relative : ByteArray := prog_1_method_14_code
def yX5_relative : MethodName := ⟨RX5, "relative", "(II)I"⟩
abbrev cX5_support : ByteArray := prog_1_method_15_code
def yX5_support : MethodName := ⟨RX5, "support", "(I)I"⟩
abbrev cX5_centre : ByteArray := prog_1_method_16_code
def yX5_centre : MethodName := ⟨RX5, "centre", "(II)I"⟩
abbrev cX5_tree : ByteArray := prog_1_method_17_code
def yX5_tree : MethodName := ⟨RX5, "tree", "()I"⟩
abbrev cX5_node : ByteArray := prog_1_method_18_code
def yX5_node : MethodName := ⟨RX5, "node", "(II)I"⟩
abbrev cX5_dual : ByteArray := prog_1_method_19_code
def yX5_dual : MethodName := ⟨RX5, "dual", "(III)I"⟩
abbrev cX5_need : ByteArray := prog_1_method_20_code
def yX5_need : MethodName := ⟨RX5, "need", "(IIII)J"⟩
abbrev cX5_proof : ByteArray := prog_1_method_21_code
def yX5_proof : MethodName := ⟨RX5, "proof", "(I)I"⟩
abbrev cX5_none : ByteArray := prog_1_method_22_code
def yX5_none : MethodName := ⟨RX5, "none", "(IIIII)I"⟩
abbrev cX5_beginAnew : ByteArray := prog_1_method_23_code
def yX5_beginAnew : MethodName := ⟨RX5, "beginAnew", "()V"⟩
abbrev cX5_isLength : ByteArray := prog_1_method_24_code
def yX5_isLength : MethodName := ⟨RX5, "isLength", "(I)Z"⟩
abbrev cX5_isAxis : ByteArray := prog_1_method_25_code
def yX5_isAxis : MethodName := ⟨RX5, "isAxis", "(I)Z"⟩
abbrev cX5_lowest : ByteArray := prog_1_method_26_code
def yX5_lowest : MethodName := ⟨RX5, "lowest", "(I)I"⟩
abbrev cX5_commonDivisor : ByteArray := prog_1_method_27_code
def yX5_commonDivisor : MethodName := ⟨RX5, "commonDivisor", "(II)I"⟩
def RX6 : String := "PlaceRectanglesModel"
def TX6 : u_T := fun k => match k with
  | 0 => ("PlaceRectanglesModel", "length", "[I", true)
  | 1 => ("PlaceRectanglesModel", "boxes", "I", false)
  | 2 => ("PlaceRectanglesModel", "side", "[I", true)
  | 3 => ("PlaceRectanglesModel", "weights", "[I", true)
  | 4 => ("PlaceRectanglesModel", "turned", "[I", true)
  | 5 => ("PlaceRectanglesModel", "laid", "[I", true)
  | 6 => ("PlaceRectanglesModel", "at", "[I", true)
  | 7 => ("PlaceRectanglesModel", "status", "I", false)
  | 8 => ("PlaceRectanglesModel", "depth", "I", false)
  | 9 => ("PlaceRectanglesModel", "work", "J", false)
  | 10 => ("PlaceRectanglesModel", "order", "[I", true)
  | 11 => ("PlaceRectanglesModel", "next", "[I", true)
  | 12 => ("PlaceRectanglesModel", "planTurn", "[I", true)
  | 13 => ("PlaceRectanglesModel", "planAt", "[I", true)
  | 14 => ("PlaceRectanglesModel", "sums", "[Z", true)
  | 15 => ("PlaceRectanglesModel", "kept", "[I", true)
  | 16 => ("PlaceRectanglesModel", "keptWays", "[I", true)
  | 17 => ("PlaceRectanglesModel", "nodeAxis", "[I", true)
  | 18 => ("PlaceRectanglesModel", "nodePlace", "[I", true)
  | 19 => ("PlaceRectanglesModel", "nodeOne", "[I", true)
  | 20 => ("PlaceRectanglesModel", "nodeTwo", "[I", true)
  | 21 => ("PlaceRectanglesModel", "nodes", "I", false)
  | 22 => ("PlaceRectanglesModel", "pileSet", "[I", true)
  | 23 => ("PlaceRectanglesModel", "pileOver", "[I", true)
  | 24 => ("PlaceRectanglesModel", "pileSide", "[I", true)
  | 25 => ("PlaceRectanglesModel", "proved", "Z", false)
  | _ => ("PlaceRectanglesModel", "proof", "[I", true)
def tyX6 : Nat → FieldType := fun k => match k with
  | 0 => .array .int
  | 1 => .int
  | 2 => .array .int
  | 3 => .array .int
  | 4 => .array .int
  | 5 => .array .int
  | 6 => .array .int
  | 7 => .int
  | 8 => .int
  | 9 => .long
  | 10 => .array .int
  | 11 => .array .int
  | 12 => .array .int
  | 13 => .array .int
  | 14 => .array .boolean
  | 15 => .array .int
  | 16 => .array .int
  | 17 => .array .int
  | 18 => .array .int
  | 19 => .array .int
  | 20 => .array .int
  | 21 => .int
  | 22 => .array .int
  | 23 => .array .int
  | 24 => .array .int
  | 25 => .boolean
  | _ => .array .int
abbrev wsX60 : List Cond := u_ws RX6 TX6 27
theorem nmX6 : ∀ a, a < 27 → ∀ b, b < 27 → a ≠ b → (TX6 a).2.1 ≠ (TX6 b).2.1 := by decide +kernel
theorem tyX6_ok : ∀ k, k < 27 → parseFieldDescriptor (TX6 k).2.2.1 = some (tyX6 k) := by decide +kernel
abbrev cX6_init : ByteArray := prog_8_method_1_code
def yX6_init : MethodName := ⟨RX6, "<init>", "()V"⟩
abbrev cX6_sideOf : ByteArray := prog_8_method_2_code
def yX6_sideOf : MethodName := ⟨RX6, "sideOf", "(II)I"⟩
abbrev cX6_extent : ByteArray := prog_8_method_3_code
def yX6_extent : MethodName := ⟨RX6, "extent", "(III)I"⟩
abbrev cX6_has : ByteArray := prog_8_method_4_code
def yX6_has : MethodName := ⟨RX6, "has", "(II)Z"⟩
abbrev cX6_anew : ByteArray := prog_8_method_5_code
def yX6_anew : MethodName := ⟨RX6, "anew", "()V"⟩
abbrev cX6_volume : ByteArray := prog_8_method_6_code
def yX6_volume : MethodName := ⟨RX6, "volume", "(I)I"⟩
abbrev cX6_isSum : ByteArray := prog_8_method_7_code
def yX6_isSum : MethodName := ⟨RX6, "isSum", "(III)Z"⟩
abbrev cX6_sum : ByteArray := prog_8_method_8_code
def yX6_sum : MethodName := ⟨RX6, "sum", "(II)V"⟩
abbrev cX6_isFirst : ByteArray := prog_8_method_9_code
def yX6_isFirst : MethodName := ⟨RX6, "isFirst", "(II)Z"⟩
abbrev cX6_many : ByteArray := prog_8_method_10_code
def yX6_many : MethodName := ⟨RX6, "many", "(III)I"⟩
abbrev cX6_waysOf : ByteArray := prog_8_method_11_code
def yX6_waysOf : MethodName := ⟨RX6, "waysOf", "(II)I"⟩
abbrev cX6_counted : ByteArray := prog_8_method_12_code
def yX6_counted : MethodName := ⟨RX6, "counted", "(III)I"⟩
abbrev cX6_ways : ByteArray := prog_8_method_13_code
def yX6_ways : MethodName := ⟨RX6, "ways", "(I)I"⟩
abbrev cX6_coordinate : ByteArray := prog_8_method_14_code
def yX6_coordinate : MethodName := ⟨RX6, "coordinate", "(III)I"⟩
abbrev cX6_goes : ByteArray := prog_8_method_15_code
def yX6_goes : MethodName := ⟨RX6, "goes", "(II)V"⟩
abbrev cX6_isApart : ByteArray := prog_8_method_16_code
def yX6_isApart : MethodName := ⟨RX6, "isApart", "(IIII)Z"⟩
abbrev cX6_isPlanned : ByteArray := prog_8_method_17_code
def yX6_isPlanned : MethodName := ⟨RX6, "isPlanned", "(I)Z"⟩
abbrev cX6_run : ByteArray := prog_8_method_18_code
def yX6_run : MethodName := ⟨RX6, "run", "(I)I"⟩
abbrev cX6_bin : ByteArray := prog_8_method_19_code
def yX6_bin : MethodName := ⟨RX6, "bin", "(III)I"⟩
abbrev cX6_isSide : ByteArray := prog_8_method_20_code
def yX6_isSide : MethodName := ⟨RX6, "isSide", "(I)Z"⟩
abbrev cX6_box : ByteArray := prog_8_method_21_code
def yX6_box : MethodName := ⟨RX6, "box", "(III)I"⟩
abbrev cX6_isBox : ByteArray := prog_8_method_22_code
def yX6_isBox : MethodName := ⟨RX6, "isBox", "(I)Z"⟩
abbrev cX6_turns : ByteArray := prog_8_method_23_code
def yX6_turns : MethodName := ⟨RX6, "turns", "(II)I"⟩
abbrev cX6_weight : ByteArray := prog_8_method_24_code
def yX6_weight : MethodName := ⟨RX6, "weight", "(II)I"⟩
abbrev cX6_clear : ByteArray := prog_8_method_25_code
def yX6_clear : MethodName := ⟨RX6, "clear", "()I"⟩
abbrev cX6_told : ByteArray := prog_8_method_26_code
def yX6_told : MethodName := ⟨RX6, "told", "(II)I"⟩
abbrev cX6_plan : ByteArray := prog_8_method_27_code
def yX6_plan : MethodName := ⟨RX6, "plan", "()I"⟩
abbrev cX6_isPlace : ByteArray := prog_8_method_28_code
def yX6_isPlace : MethodName := ⟨RX6, "isPlace", "(IIIII)Z"⟩
abbrev cX6_lay : ByteArray := prog_8_method_29_code
def yX6_lay : MethodName := ⟨RX6, "lay", "(IIIII)I"⟩
abbrev cX6_lift : ByteArray := prog_8_method_30_code
def yX6_lift : MethodName := ⟨RX6, "lift", "(I)I"⟩
abbrev cX6_begin : ByteArray := prog_8_method_31_code
def yX6_begin : MethodName := ⟨RX6, "begin", "(II)I"⟩
abbrev cX6_end : ByteArray := prog_8_method_32_code
def yX6_end : MethodName := ⟨RX6, "end", "(II)I"⟩
abbrev cX6_place : ByteArray := prog_8_method_33_code
def yX6_place : MethodName := ⟨RX6, "place", "(II)I"⟩
abbrev cX6_apart : ByteArray := prog_8_method_34_code
def yX6_apart : MethodName := ⟨RX6, "apart", "(II)I"⟩
abbrev cX6_overlaps : ByteArray := prog_8_method_35_code
def yX6_overlaps : MethodName := ⟨RX6, "overlaps", "()I"⟩
abbrev cX6_relative : ByteArray := prog_8_method_36_code
def yX6_relative : MethodName := ⟨RX6, "relative", "(II)I"⟩
abbrev cX6_common : ByteArray := prog_8_method_37_code
def yX6_common : MethodName := ⟨RX6, "common", "(III)I"⟩
abbrev cX6_support : ByteArray := prog_8_method_38_code
def yX6_support : MethodName := ⟨RX6, "support", "(I)I"⟩
abbrev cX6_centre : ByteArray := prog_8_method_39_code
def yX6_centre : MethodName := ⟨RX6, "centre", "(II)I"⟩
abbrev cX6_planted : ByteArray := prog_8_method_40_code
def yX6_planted : MethodName := ⟨RX6, "planted", "()I"⟩
abbrev cX6_firstOf : ByteArray := prog_8_method_41_code
def yX6_firstOf : MethodName := ⟨RX6, "firstOf", "(I)I"⟩
abbrev cX6_cutOf : ByteArray := prog_8_method_42_code
def yX6_cutOf : MethodName := ⟨RX6, "cutOf", "(I)I"⟩
abbrev cX6_before : ByteArray := prog_8_method_43_code
def yX6_before : MethodName := ⟨RX6, "before", "(III)I"⟩
abbrev cX6_tree : ByteArray := prog_8_method_44_code
def yX6_tree : MethodName := ⟨RX6, "tree", "()I"⟩
abbrev cX6_node : ByteArray := prog_8_method_45_code
def yX6_node : MethodName := ⟨RX6, "node", "(II)I"⟩
abbrev cX6_worth : ByteArray := prog_8_method_46_code
def yX6_worth : MethodName := ⟨RX6, "worth", "(III)I"⟩
abbrev cX6_isDual : ByteArray := prog_8_method_47_code
def yX6_isDual : MethodName := ⟨RX6, "isDual", "(II)Z"⟩
abbrev cX6_dual : ByteArray := prog_8_method_48_code
def yX6_dual : MethodName := ⟨RX6, "dual", "(III)I"⟩
abbrev cX6_has_ : ByteArray := prog_8_method_49_code
def yX6_has_ : MethodName := ⟨RX6, "has", "(III)J"⟩
abbrev cX6_needs : ByteArray := prog_8_method_50_code
def yX6_needs : MethodName := ⟨RX6, "needs", "(IIII)J"⟩
abbrev cX6_need : ByteArray := prog_8_method_51_code
def yX6_need : MethodName := ⟨RX6, "need", "(IIII)J"⟩
abbrev cX6_prove : ByteArray := prog_8_method_52_code
def yX6_prove : MethodName := ⟨RX6, "prove", "()V"⟩
abbrev cX6_proof : ByteArray := prog_8_method_53_code
def yX6_proof : MethodName := ⟨RX6, "proof", "(I)I"⟩
abbrev cX6_none : ByteArray := prog_8_method_54_code
def yX6_none : MethodName := ⟨RX6, "none", "(IIIII)I"⟩
abbrev cX6_isPossible : ByteArray := prog_8_method_55_code
def yX6_isPossible : MethodName := ⟨RX6, "isPossible", "(IIIIII)Z"⟩
def RJ6 : String := "java/lang/Integer"
abbrev cJ6_bitCount_0f7a4 : ByteArray := prog_9_method_49_code
def yJ6_bitCount_0f7a4 : MethodName := ⟨RJ6, "bitCount", "(I)I"⟩
def RJ9 : String := "java/lang/Math"
abbrev cJ9_max_7cf53 : ByteArray := prog_10_method_65_code
def yJ9_max_7cf53 : MethodName := ⟨RJ9, "max", "(II)I"⟩
abbrev cJ9_min_7cf53 : ByteArray := prog_10_method_69_code
def yJ9_min_7cf53 : MethodName := ⟨RJ9, "min", "(II)I"⟩
def RL : String := "PlaceRectanglesLaw"
abbrev cL_law : ByteArray := code
def yL_law : MethodName := ⟨RL, "law", "([I)Z"⟩
abbrev vwCl : List vw_C := [(RX0, TX0, 3), (RX1, TX1, 10), (RX2, TX2, 5), (RX3, TX3, 16), (RX4, TX4, 5), (RX5, TX5, 5), (RX6, TX6, 27)]
end
section
/-! numbers: ints and longs as the images of whole numbers -/
def iI (z : Int) : Int32 := Int32.ofInt z
def iL (z : Int) : Int64 := Int64.ofInt z
abbrev inR (z : Int) : Prop := -2147483648 ≤ z ∧ z ≤ 2147483647
abbrev inL (z : Int) : Prop := -9223372036854775808 ≤ z ∧ z ≤ 9223372036854775807
theorem iI_of (x : Int32) : iI x.toInt = x := Int32.ofInt_toInt x
theorem iI_inR (x : Int32) : inR x.toInt := by
  have h1 := Int32.toInt_lt x
  have h2 := Int32.le_toInt x
  constructor <;> omega
theorem iI_toInt {a : Int} (h : inR a) : (iI a).toInt = a := Int32.toInt_ofInt_of_le (by omega) (by omega)
theorem iL_toInt {a : Int} (h : inL a) : (iL a).toInt = a := Int64.toInt_ofInt_of_le (by omega) (by omega)
theorem iI_inj {a b : Int} (ha : inR a) (hb : inR b) : iI a = iI b ↔ a = b := by
  constructor
  · intro h
    have := congrArg Int32.toInt h
    rwa [iI_toInt ha, iI_toInt hb] at this
  · intro h; rw [h]
theorem iI_lt {a b : Int} (ha : inR a) (hb : inR b) : iI a < iI b ↔ a < b := by
  rw [Int32.lt_iff_toInt_lt, iI_toInt ha, iI_toInt hb]
theorem iI_le {a b : Int} (ha : inR a) (hb : inR b) : iI a ≤ iI b ↔ a ≤ b := by
  rw [Int32.le_iff_toInt_le, iI_toInt ha, iI_toInt hb]
theorem iI_zero : iI 0 = 0 := rfl
theorem iI_bv (a : Int) : (iI a).toBitVec = BitVec.ofInt 32 a := rfl
theorem iI_add (a b : Int) : iI a + iI b = iI (a + b) := by
  apply Int32.toBitVec.inj
  rw [Int32.toBitVec_add, iI_bv, iI_bv, iI_bv, BitVec.ofInt_add]
theorem iI_mul (a b : Int) : iI a * iI b = iI (a * b) := by
  apply Int32.toBitVec.inj
  rw [Int32.toBitVec_mul, iI_bv, iI_bv, iI_bv, BitVec.ofInt_mul]
theorem iI_neg (a : Int) : - iI a = iI (-a) := by
  apply Int32.toBitVec.inj
  rw [Int32.toBitVec_neg, iI_bv, iI_bv, BitVec.ofInt_neg]
theorem iI_sub (a b : Int) : iI a - iI b = iI (a - b) := by
  rw [Int32.sub_eq_add_neg, iI_neg, iI_add, Int.sub_eq_add_neg]
theorem iL_bv (a : Int) : (iL a).toBitVec = BitVec.ofInt 64 a := rfl
theorem iL_add (a b : Int) : iL a + iL b = iL (a + b) := by
  apply Int64.toBitVec.inj
  rw [Int64.toBitVec_add, iL_bv, iL_bv, iL_bv, BitVec.ofInt_add]
theorem iL_mul (a b : Int) : iL a * iL b = iL (a * b) := by
  apply Int64.toBitVec.inj
  rw [Int64.toBitVec_mul, iL_bv, iL_bv, iL_bv, BitVec.ofInt_mul]
theorem iI_l {a : Int} (h : inR a) : (iI a).toInt64 = iL a := by
  apply Int64.toInt.inj
  rw [Int32.toInt_toInt64, iI_toInt h, iL_toInt (by omega)]
theorem iL_i (a : Int) : (iL a).toInt32 = iI a := Int64.toInt32_ofInt
theorem iI_cl {a : Int} (h0 : 0 ≤ a) (h : a ≤ 2147483647) : (iI a).toNatClampNeg = a.toNat := by
  show (iI a).toInt.toNat = a.toNat
  rw [iI_toInt (by omega)]
theorem iI_in {a : Int} {n : Nat} (h0 : 0 ≤ a) (h1 : a < n) (hn : a ≤ 2147483647) : vp_in (iI a) n := by
  rw [vp_in_iff, iI_toInt (by omega)]
  exact ⟨h0, h1⟩
theorem iI_div {a b : Int} (ha : 0 ≤ a) (ha2 : a ≤ 2147483647) (hb : 0 < b) (hb2 : b ≤ 2147483647) : iI a / iI b = iI (a / b) := by
  apply Int32.toInt.inj
  have h1 : 0 ≤ a / b := Int.ediv_nonneg ha (by omega)
  have h2 : a / b ≤ a := Int.ediv_le_self b ha
  rw [Int32.toInt_div_of_ne_right _ _ (fun h => ?_), iI_toInt (by omega), iI_toInt (by omega), iI_toInt (by omega), Int.tdiv_eq_ediv_of_nonneg ha]
  have := congrArg Int32.toInt h
  rw [iI_toInt (by omega)] at this
  have h3 : (-1 : Int32).toInt = -1 := rfl
  omega
theorem iI_rem {a b : Int} (ha : 0 ≤ a) (ha2 : a ≤ 2147483647) (hb : 0 < b) (hb2 : b ≤ 2147483647) : iI a - iI a / iI b * iI b = iI (a % b) := by
  rw [iI_div ha ha2 hb hb2, iI_mul, iI_sub]
  congr 1
  have := Int.emod_add_mul_ediv a b
  have e : a / b * b = b * (a / b) := Int.mul_comm _ _
  omega
theorem iI_nz {b : Int} (hb : inR b) (h : b ≠ 0) : ¬ iI b = 0 := by
  rw [← iI_zero, iI_inj hb (by omega)]; exact h
theorem lg_cmp_i {a b : Int} (ha : inL a) (hb : inL b) : lg_cmp (iL a) (iL b) = iI (if b < a then 1 else if a = b then 0 else -1) := by
  unfold lg_cmp
  have h1 : iL a > iL b ↔ b < a := by
    show iL b < iL a ↔ _
    rw [Int64.lt_iff_toInt_lt, iL_toInt ha, iL_toInt hb]
  have h2 : iL a = iL b ↔ a = b := by
    constructor
    · intro h
      have := congrArg Int64.toInt h
      rwa [iL_toInt ha, iL_toInt hb] at this
    · intro h; rw [h]
  by_cases c1 : b < a
  · rw [if_pos (h1.mpr c1), if_pos c1]; rfl
  · rw [if_neg (fun h => c1 (h1.mp h)), if_neg c1]
    by_cases c2 : a = b
    · rw [if_pos (h2.mpr c2), if_pos c2]; rfl
    · rw [if_neg (fun h => c2 (h2.mp h)), if_neg c2]; rfl
/-! bits of numbers that are not negative -/
theorem iI_bvn (x : Nat) : (iI (x : Int)).toBitVec = BitVec.ofNat 32 x := by
  rw [iI_bv, BitVec.ofInt_natCast]
theorem iI_and (x y : Nat) (hx : x < 4294967296) (hy : y < 4294967296) : iI (x : Int) &&& iI (y : Int) = iI ((x &&& y : Nat) : Int) := by
  apply Int32.toBitVec.inj
  rw [Int32.toBitVec_and, iI_bvn, iI_bvn, iI_bvn]
  apply BitVec.eq_of_toNat_eq
  rw [BitVec.toNat_and, BitVec.toNat_ofNat, BitVec.toNat_ofNat, BitVec.toNat_ofNat, Nat.mod_eq_of_lt hx, Nat.mod_eq_of_lt hy, Nat.mod_eq_of_lt (Nat.lt_of_le_of_lt Nat.and_le_left hx)]
theorem iI_or (x y : Nat) (hx : x < 4294967296) (hy : y < 4294967296) : iI (x : Int) ||| iI (y : Int) = iI ((x ||| y : Nat) : Int) := by
  apply Int32.toBitVec.inj
  rw [Int32.toBitVec_or, iI_bvn, iI_bvn, iI_bvn]
  apply BitVec.eq_of_toNat_eq
  rw [BitVec.toNat_or, BitVec.toNat_ofNat, BitVec.toNat_ofNat, BitVec.toNat_ofNat, Nat.mod_eq_of_lt hx, Nat.mod_eq_of_lt hy, Nat.mod_eq_of_lt (Nat.or_lt_two_pow (n := 32) hx hy)]
theorem iI_not (a : Int) : iI a ^^^ iI (-1) = iI (-a - 1) := by
  have e : iI (-a - 1) = -iI a + iI (-1) := by rw [iI_neg, iI_add, Int.sub_eq_add_neg]
  rw [e]
  generalize iI a = x
  apply Int32.toBitVec.inj
  have h1 : (iI (-1)).toBitVec = BitVec.allOnes 32 := by decide
  rw [Int32.toBitVec_xor, Int32.toBitVec_add, Int32.toBitVec_neg, h1, BitVec.xor_allOnes, BitVec.not_eq_neg_add, BitVec.sub_eq_add_neg]
  congr 1
/-- what is in x and not in y -/
def andn (x y : Nat) : Nat := x ^^^ (x &&& y)
theorem andn_bit (x y i : Nat) : (andn x y).testBit i = (x.testBit i && !y.testBit i) := by
  unfold andn
  rw [Nat.testBit_xor, Nat.testBit_and]
  cases x.testBit i <;> cases y.testBit i <;> rfl
theorem andn_lt {x y n : Nat} (h : x < 2 ^ n) : andn x y < 2 ^ n := Nat.xor_lt_two_pow h (Nat.lt_of_le_of_lt Nat.and_le_left h)
theorem iI_andn (x y : Nat) (hx : x < 4294967296) (hy : y < 4294967296) : iI (x : Int) &&& iI (-(y : Int) - 1) = iI ((andn x y : Nat) : Int) := by
  rw [← iI_not]
  apply Int32.toBitVec.inj
  rw [Int32.toBitVec_and, Int32.toBitVec_xor, iI_bvn, iI_bvn, iI_bvn]
  have h1 : (iI (-1)).toBitVec = BitVec.allOnes 32 := by decide
  rw [h1]
  apply BitVec.eq_of_getLsbD_eq
  intro i hi
  rw [BitVec.getLsbD_and, BitVec.getLsbD_xor, BitVec.getLsbD_ofNat, BitVec.getLsbD_ofNat, BitVec.getLsbD_ofNat, BitVec.getLsbD_allOnes, andn_bit]
  simp [hi]
theorem iI_and31 {b : Int} (h0 : 0 ≤ b) (h1 : b < 32) : (iI b &&& (31 : Int32)) = iI b := by
  obtain ⟨n, rfl⟩ := Int.eq_ofNat_of_zero_le h0
  have e : (31 : Int32) = iI ((31 : Nat) : Int) := rfl
  rw [e, iI_and _ _ (by omega) (by omega)]
  congr 2
  have : (31 : Nat) = 2 ^ 5 - 1 := rfl
  rw [this, Nat.and_two_pow_sub_one_eq_mod]
  omega
theorem iI_shl {a b : Int} (h0 : 0 ≤ b) (h1 : b < 32) : iI a <<< (iI b &&& (31 : Int32)) = iI (a * 2 ^ b.toNat) := by
  rw [iI_and31 h0 h1]
  obtain ⟨n, rfl⟩ := Int.eq_ofNat_of_zero_le h0
  apply Int32.toBitVec.inj
  rw [Int32.toBitVec_shiftLeft, iI_bv]
  have hn : ((iI ((n : Nat) : Int)).toBitVec.smod 32).toNat = n := by
    have hz : ∀ k, k < 32 → ((iI ((k : Nat) : Int)).toBitVec.smod 32).toNat = k := by decide
    exact hz n (by omega)
  rw [BitVec.shiftLeft_eq', hn, iI_bv, BitVec.shiftLeft_eq_mul_twoPow, BitVec.ofInt_mul]
  congr 1
  rw [show ((n : Nat) : Int).toNat = n from rfl, show (2 : Int) ^ n = ((2 ^ n : Nat) : Int) by simp, BitVec.ofInt_natCast]
  apply BitVec.eq_of_toNat_eq
  simp [BitVec.toNat_twoPow]
theorem iI_shr {a b : Int} (ha : inR a) (h0 : 0 ≤ b) (h1 : b < 32) : iI a >>> (iI b &&& (31 : Int32)) = iI (a / 2 ^ b.toNat) := by
  rw [iI_and31 h0 h1]
  obtain ⟨n, rfl⟩ := Int.eq_ofNat_of_zero_le h0
  have hz : ∀ k, k < 32 → ((iI ((k : Nat) : Int)).toBitVec.smod 32).toNat = k := by decide
  apply Int32.toInt.inj
  rw [pk_shr (iI a) (iI ((n : Nat) : Int)) n (hz n (by omega)), iI_toInt ha, Int.shiftRight_eq_div_pow]
  have hp : (0 : Int) < 2 ^ n := Int.pow_pos (by decide)
  have e : ((2 ^ n : Nat) : Int) = 2 ^ n := by simp
  rw [e, show ((n : Nat) : Int).toNat = n from rfl, iI_toInt]
  constructor
  · have : -2147483648 * 2 ^ n ≤ a := by
      have h2 : (1 : Int) ≤ 2 ^ n := hp
      have h3 : (2147483648 : Int) * 1 ≤ 2147483648 * 2 ^ n := Int.mul_le_mul_of_nonneg_left h2 (by decide)
      have h4 : (-2147483648 : Int) * 2 ^ n = -(2147483648 * 2 ^ n) := Int.neg_mul _ _
      omega
    exact Int.le_ediv_of_mul_le hp this
  · by_cases hs : 0 ≤ a
    · have := Int.ediv_le_self (2 ^ n) hs
      omega
    · have := Int.ediv_neg_of_neg_of_pos (by omega : a < 0) hp
      omega
end
section
/-! a component's memory: cells by their numbers, what they hold as whole numbers -/
abbrev jMem : Type := Nat → Int → Int
/-- the shape of a cell: an object (its class's place, of each field 0: an int, 1: a long, r + 2: a reference to cell r), or an array (of booleans?, its length) -/
abbrev jSh : Type := (Nat × List Nat) ⊕ (Bool × Nat)
def up2 (S : jMem) (k : Nat) (a v : Int) : jMem := fun k' a' => if k' = k ∧ a' = a then v else S k' a'
theorem up2_eq (S : jMem) (k : Nat) (a v : Int) : up2 S k a v k a = v := by simp [up2]
theorem up2_k (S : jMem) {k k' : Nat} (a v : Int) (h : k' ≠ k) : up2 S k a v k' = S k' := by funext a'; simp [up2, h]
theorem up2_a (S : jMem) (k : Nat) {a a' : Int} (v : Int) (h : a' ≠ a) : up2 S k a v k a' = S k a' := by simp [up2, h]
def jfv (ad : Nat → Nat) (c : Nat) (x : Int) : Value := match c with
  | 0 => .int (iI x)
  | 1 => .long (iL x)
  | r + 2 => .ref (ad r)
def jfs (ad : Nat → Nat) (f : Int → Int) : Nat → List Nat → List Value
  | _, [] => []
  | j, c :: cs => jfv ad c (f j) :: jfs ad f (j + 1) cs
theorem jfs_len (ad : Nat → Nat) (f : Int → Int) : ∀ (l : List Nat) (j : Nat), (jfs ad f j l).length = l.length
  | [], _ => rfl
  | _ :: l, j => congrArg (· + 1) (jfs_len ad f l (j + 1))
theorem jfs_get (ad : Nat → Nat) (f : Int → Int) : ∀ (l : List Nat) (j k c : Nat), l[k]? = some c → (jfs ad f j l)[k]? = some (jfv ad c (f ((j + k : Nat) : Int)))
  | [], _, _, _, h => by simp at h
  | b :: l, j, 0, c, h => by
    simp at h
    subst h
    rfl
  | b :: l, j, k + 1, c, h => by
    have h2 : l[k]? = some c := by simpa using h
    have := jfs_get ad f l (j + 1) k c h2
    rw [show j + 1 + k = j + (k + 1) by omega] at this
    simpa [jfs] using this
theorem jfs_congr (ad : Nat → Nat) (f g : Int → Int) : ∀ (l : List Nat) (j : Nat), (∀ i : Nat, j ≤ i → f i = g i) → jfs ad f j l = jfs ad g j l
  | [], _, _ => rfl
  | b :: l, j, h => by
    show jfv ad b (f j) :: jfs ad f (j + 1) l = jfv ad b (g j) :: jfs ad g (j + 1) l
    rw [h j (Nat.le_refl j), jfs_congr ad f g l (j + 1) (fun i hi => h i (by omega))]
theorem jfs_set (ad : Nat → Nat) (f g : Int → Int) : ∀ (l : List Nat) (j k c : Nat), l[k]? = some c → (∀ i : Nat, i ≠ j + k → g i = f i) → (jfs ad f j l).set k (jfv ad c (g ((j + k : Nat) : Int))) = jfs ad g j l
  | [], _, _, _, h, _ => by simp at h
  | b :: l, j, 0, c, h, hg => by
    simp at h
    subst h
    show jfv ad b (g j) :: jfs ad f (j + 1) l = jfv ad b (g j) :: jfs ad g (j + 1) l
    rw [jfs_congr ad f g l (j + 1) (fun i hi => (hg i (by omega)).symm)]
  | b :: l, j, k + 1, c, h, hg => by
    have h2 : l[k]? = some c := by simpa using h
    have := jfs_set ad f g l (j + 1) k c h2 (fun i hi => hg i (by omega))
    rw [show j + 1 + k = j + (k + 1) by omega] at this
    show jfv ad b (f j) :: (jfs ad f (j + 1) l).set k _ = jfv ad b (g j) :: jfs ad g (j + 1) l
    rw [this, hg j (by omega)]
def jE (cI cZ : ClassId) (ad : Nat → Nat) (f : Int → Int) (q : jSh) : va_E := match q with
  | .inl q => .inr (q.1, jfs ad f 0 q.2)
  | .inr q => .inl (if q.1 then cZ else cI, q.2, .inl (fun j => iI (f j)))
/-- what is fixed of a component: the launch, its shape, how many cells, classes' numbers and slots, the classes of int[] and boolean[], where the cells lie, where the class's table lies -/
abbrev jG : Type := Launch × (Nat → jSh) × Nat × (Nat → ClassId) × (Nat → Nat → Nat) × ClassId × ClassId × (Nat → Nat) × Nat
abbrev jl (G : jG) : Launch := G.1
abbrev jsh (G : jG) : Nat → jSh := G.2.1
abbrev jn (G : jG) : Nat := G.2.2.1
abbrev jD (G : jG) : va_G := (G.2.2.2.1, G.2.2.2.2.1)
abbrev jcI (G : jG) : ClassId := G.2.2.2.2.2.1
abbrev jcZ (G : jG) : ClassId := G.2.2.2.2.2.2.1
abbrev jad (G : jG) : Nat → Nat := G.2.2.2.2.2.2.2.1
abbrev jt (G : jG) : Nat := G.2.2.2.2.2.2.2.2
abbrev jtys (G : jG) : List (ClassId × FieldType) := [(jcI G, .int), (jcZ G, .boolean)]
def jws (G : jG) (S : jMem) : va_W := (List.range (jn G)).map (fun k => (jad G k, jE (jcI G) (jcZ G) (jad G) (S k) (jsh G k)))
def jA (G : jG) : Nat → Prop := fun q => ∃ k, k < jn G ∧ jad G k = q
theorem jws_get (G : jG) (S : jMem) {k : Nat} (h : k < jn G) : (jws G S)[k]? = some (jad G k, jE (jcI G) (jcZ G) (jad G) (S k) (jsh G k)) := by
  unfold jws
  rw [List.getElem?_map, List.getElem?_range h]
  rfl
theorem jws_set (G : jG) (S S' : jMem) {k : Nat} {e : va_E} (h : k < jn G) (he : e = jE (jcI G) (jcZ G) (jad G) (S' k) (jsh G k)) (ho : ∀ i, i ≠ k → S' i = S i) : (jws G S).set k (jad G k, e) = jws G S' := by
  apply List.ext_getElem?
  intro i
  by_cases hi : i = k
  · subst hi
    have hl : i < (jws G S).length := by unfold jws; simpa using h
    rw [List.getElem?_set_self hl, jws_get G S' h, he]
  · rw [List.getElem?_set_ne (Ne.symm hi)]
    unfold jws
    rw [List.getElem?_map, List.getElem?_map]
    cases hr : (List.range (jn G))[i]? with
    | none => rfl
    | some j =>
      have hj : j = i := by
        have := List.getElem?_eq_some_iff.mp hr
        obtain ⟨h1, h2⟩ := this
        simpa using h2.symm
      subst hj
      show some (jad G j, jE (jcI G) (jcZ G) (jad G) (S j) (jsh G j)) = some (jad G j, jE (jcI G) (jcZ G) (jad G) (S' j) (jsh G j))
      rw [ho j hi]
def jinj (G : jG) : Prop := ∀ i j, i < jn G → j < jn G → jad G i = jad G j → i = j
theorem jws_lt (G : jG) (S : jMem) {k : Nat} {q : Nat × va_E} (h : (jws G S)[k]? = some q) : k < jn G ∧ q.1 = jad G k := by
  have hl : k < (jws G S).length := (List.getElem?_eq_some_iff.mp h).1
  have hk : k < jn G := by unfold jws at hl; simpa using hl
  rw [jws_get G S hk] at h
  cases h
  exact ⟨hk, rfl⟩
theorem jD_of (G : jG) (S : jMem) (h : jinj G) : va_D (jA G) (jws G S) := by
  refine ⟨fun i j x y hi hj hxy => ?_, fun k q hk => ?_⟩
  · obtain ⟨a1, a2⟩ := jws_lt G S hi
    obtain ⟨b1, b2⟩ := jws_lt G S hj
    exact h i j a1 b1 (by rw [← a2, ← b2, hxy])
  · obtain ⟨a1, a2⟩ := jws_lt G S hk
    exact ⟨k, a1, a2.symm⟩
/-- the class's table of sides -/
def sd (a : Int) : Int := ([0, 1, 2, 0, 2, 1, 1, 0, 2, 1, 2, 0, 2, 0, 1, 2, 1, 0] : List Int).getD a.toNat 0
def jnest : List Cond := [.methodLinkNest "PlaceRectangles$Cuts" 28 yX5_lowest "PlaceRectangles", .methodLinkNest "PlaceRectangles$Search" 124 yX5_lowest "PlaceRectangles"]
def jst (G : jG) (A : Nat → Prop) (U : State) (H : Heap) : Prop := va_Z "PlaceRectangles$Stock" "SIDES_OF_TURNS" "[I" (.ref (jt G)) A U H ∧ va_T .int (jt G) 18 (fun j => .int (iI (sd j))) A U H ∧ ∀ w ∈ jnest, va_Nw w U
theorem jst.moved {G : jG} {A : Nat → Prop} {u U : State} {H : Heap} (hW : u.WarmedH U.vm) (h : jst G A u H) : jst G A U H := by
  refine ⟨h.1.moved hW.alike, h.2.1.moved hW.alike, fun w hw => ?_⟩
  have h0 := h.2.2 w hw
  simp only [jnest, List.mem_cons, List.not_mem_nil, or_false] at hw
  rcases hw with rfl | rfl
  · exact va_Nw.warmM hW h0
  · exact va_Nw.warmM hW h0
theorem jst.kept {G : jG} {A : Nat → Prop} {U : State} {H H1 : Heap} (h : jst G A U H) (hq : ∀ a : Nat, a < H.size → ¬ A a → H1[a]? = H[a]?) : jst G A U H1 := ⟨h.1.kept hq, h.2.1.kept hq, h.2.2⟩
theorem jst.call {G : jG} {A : Nat → Prop} {U : State} {H : Heap} (g : JFrame) (mk : MethodId) (a : Array Value) (h : jst G A U H) : jst G A (U.calling g mk a) H := by
  refine ⟨h.1.moved (Vm.Alike.refl U.vm), h.2.1.moved (Vm.Alike.refl U.vm), fun w hw => ?_⟩
  have h0 := h.2.2 w hw
  simp only [jnest, List.mem_cons, List.not_mem_nil, or_false] at hw
  rcases hw with rfl | rfl
  · exact va_Nw.same (u := U) rfl rfl h0
  · exact va_Nw.same (u := U) rfl rfl h0
/-- the component's world -/
def jW (G : jG) (S : jMem) (U : State) : Prop := va_P (jD G) vwCl (jws G S) U.heap ∧ va_K (jD G) vwCl (jtys G) U ∧ jst G (jA G) U U.heap ∧ jinj G
theorem jW.blind {G : jG} {S : jMem} {av : List Value} : FrameBlind (va_Pc av (jW G S)) := fun a U g mk q => by
  obtain ⟨q0, qP, qK, qT, qI⟩ := q
  exact ⟨q0, qP, va_K.moved (u := U) (U := U.calling g mk a) (Vm.Alike.refl U.vm) qK, jst.call g mk a qT, qI⟩
def jQ (G : jG) (post : Option Value → jMem → Prop) : Array Value → State → Outcome → State → Prop := fun _ st oc t => (∃ (r : Option Value) (S' : jMem), oc = .returned r ∧ post r S' ∧ va_P (jD G) vwCl (jws G S') t.heap) ∧ va_F (jA G) st t
/-- the words that a method has: the tables that go along -/
def lw_good : List Cond := lw_tbl.filter goodWord
theorem lw_good_in {w : Cond} (h : w ∈ lw_good) : w ∈ lw_tbl := (List.mem_filter.mp h).1
theorem lw_good_of {w : Cond} (h : w ∈ lw_tbl) (h2 : goodWord w = true) : w ∈ lw_good := List.mem_filter.mpr ⟨h, h2⟩
theorem lw_good_good {x : Cond} : GoodIn (x :: lw_good) lw_good := fun w hw => ⟨List.mem_cons_of_mem _ hw, good_of_word (List.mem_filter.mp hw).2⟩
/-- a method's contract over a component -/
def jM (G : jG) (y : MethodName) (cc : ByteArray) (nL : Nat) (ret : Option FieldType) (fr lo : Nat) (av : List Value) (S : jMem) (post : Option Value → jMem → Prop) : Prop :=
  Met (jl G) y (.code y cc nL ret :: lw_good) { frames := fr, cells := 0, slots := 0, locals := lo } (va_Pc av (jW G S)) (jQ G post) 0 0 (jA G)
/-- an activation: the machine, who is below, which method, the room's rest, the goal -/
abbrev jEnv : Type := Program × Env × Room × State × MethodId × Array Value × List Frame × Method × Code × Nat × Nat × (State → Prop)
/-- the machine, at pc with these locals and this stack, the component holding S, comes to the goal -/
def J (E : jEnv) (G : jG) (pc : Nat) (lv : List (Nat × Value)) (st : List Value) (S : jMem) : Prop :=
  ∀ (H : Heap) (locs : List Loc) (ls : Array Slot), lv_has ls E.2.2.2.2.2.2.2.2.1.maxLocals lv → va_P (jD G) vwCl (jws G S) H → va_S (jA G) E.2.2.2.1.heap H locs →
    W E.1 (jl G) E.2.1 E.2.2.1 E.2.2.2.1 E.2.2.2.2.1 E.2.2.2.2.2.1 E.2.2.2.2.2.2.1 E.2.2.2.2.2.2.2.1 E.2.2.2.2.2.2.2.2.1 H locs E.2.2.2.2.2.2.2.2.2.1 E.2.2.2.2.2.2.2.2.2.2.1 E.2.2.2.2.2.2.2.2.2.2.2 (F0 E.2.2.2.2.1 pc ls st)
def jX (E : jEnv) (G : jG) (cc : ByteArray) (nL : Nat) (own : String) (fr lo : Nat) : Prop :=
  E.1.tables.exec = Jvm.exec ∧ E.2.2.2.2.2.2.2.2.1.code = cc ∧ E.2.2.2.2.2.2.2.2.1.maxLocals = nL ∧ E.2.2.2.1.vm.findClass own = some E.2.2.2.2.1.cls ∧ (∀ w ∈ lw_good, w.before E.2.2.2.2.2.1 E.2.2.2.1 = true) ∧
  va_K (jD G) vwCl (jtys G) E.2.2.2.1 ∧ jst G (jA G) E.2.2.2.1 E.2.2.2.1.heap ∧ jinj G ∧ fr ≤ E.2.2.1.frames ∧ lo ≤ E.2.2.1.locals ∧ E.2.2.2.2.2.2.2.2.2.1 ≤ E.2.2.1.cells ∧ E.2.2.2.2.2.2.2.2.2.2.1 ≤ E.2.2.1.slots
/-- the goal is the contract's end -/
def jR (E : jEnv) (G : jG) (ret : Option FieldType) (post : Option Value → jMem → Prop) : Prop :=
  E.2.2.2.2.2.2.2.2.2.2.2 = MQ E.2.2.2.2.2.2.1 (jQ G post) E.2.2.2.2.2.1 E.2.2.2.1 E.2.2.2.2.2.2.2.2.2.1 E.2.2.2.2.2.2.2.2.2.2.1 (jA G) ∧ E.2.2.2.2.2.2.2.1.sig.returnType = ret ∧ E.2.2.2.2.2.2.2.1.locks = false
theorem jM.of {G : jG} {y : MethodName} {cc : ByteArray} {nL : Nat} {ret : Option FieldType} {fr lo : Nat} {av : List Value} {S : jMem} {post : Option Value → jMem → Prop} (hy : plainName y.cls = true) (hlen : (lg_sl av).length ≤ nL)
    (body : ∀ E : jEnv, jX E G cc nL y.cls fr lo → jR E G ret post → J E G 0 (lv_args 0 av) [] S) : jM G y cc nL ret fr lo av S post := by
  refine Met.ofW (cc := cc) (maxL := nL) (ret := ret) hy rfl ?_
  intro p e s m args below meth c s₁ B hml hv
  obtain ⟨rfl, hP, hK, hT, hI⟩ := hv
  have hts := atoms_spec (ws := .code y cc nL ret :: lw_good) B.pre
  have hl := lv_entry av (n := nL) hlen
  rw [lg_entry_eq]
  exact body (p, e, _, s, m, av.toArray, below, meth, c, 0, 0, _) ⟨B.exec, B.bytes, hml, findClass_of_methodNamed B.named, fun w hw => hts w (List.mem_cons_of_mem _ hw), hK, hT, hI, Nat.le_refl _, Nat.le_refl _, Nat.zero_le _, Nat.zero_le _⟩ ⟨rfl, B.returns, B.notSynchronized⟩ s.heap [] _ (by show lv_has _ c.maxLocals _; rw [hml]; exact hl) hP va_S.rf
section JR
variable {E : jEnv} {G : jG} {cc : ByteArray} {nL : Nat} {own : String} {fr lo : Nat} {pc : Nat} {lv lv' : List (Nat × Value)} {st : List Value} {S : jMem} {ret : Option FieldType} {post : Option Value → jMem → Prop}
theorem J_iconst (C : jX E G cc nL own fr lo) {n : Int} (hd : decode cc pc = .ok (.iconst n, 1)) (k : J E G (pc + 1) lv (.int (iI n) :: st) S) : J E G pc lv st S := fun H locs ls hl hP hS => lv_iconst C.1 C.2.1 hd rfl (k H locs ls hl hP hS)
theorem J_bipush (C : jX E G cc nL own fr lo) {n : Int} (hd : decode cc pc = .ok (.bipush n, 2)) (hn : (Int8.ofInt n).toInt32 = iI n) (k : J E G (pc + 2) lv (.int (iI n) :: st) S) : J E G pc lv st S := fun H locs ls hl hP hS => lv_bipush C.1 C.2.1 hd hn (k H locs ls hl hP hS)
theorem J_sipush (C : jX E G cc nL own fr lo) {n : Int} (hd : decode cc pc = .ok (.sipush n, 3)) (hn : (Int16.ofInt n).toInt32 = iI n) (k : J E G (pc + 3) lv (.int (iI n) :: st) S) : J E G pc lv st S := fun H locs ls hl hP hS => lv_sipush C.1 C.2.1 hd hn (k H locs ls hl hP hS)
theorem J_ldc (C : jX E G cc nL own fr lo) {n : Int} {i : Nat} (hw : Cond.constant own i (iI n) ∈ lw_good) (hd : decode cc pc = .ok (.ldc i, 2)) (k : J E G (pc + 2) lv (.int (iI n) :: st) S) : J E G pc lv st S := fun H locs ls hl hP hS => lv_ldc C.1 C.2.1 C.2.2.2.1 (C.2.2.2.2.1 _ hw) hd (k H locs ls hl hP hS)
theorem J_ldc2 (C : jX E G cc nL own fr lo) {n : Int} {i : Nat} (hw : Cond.constantLong own i (iL n) ∈ lw_good) (hd : decode cc pc = .ok (.ldc2_w i, 3)) (k : J E G (pc + 3) lv (.long (iL n) :: st) S) : J E G pc lv st S := fun H locs ls hl hP hS => lv_ldc2 C.1 C.2.1 C.2.2.2.1 (C.2.2.2.2.1 _ hw) hd (k H locs ls hl hP hS)
theorem J_lconst (C : jX E G cc nL own fr lo) {n : Fin 2} (z : Int) (hd : decode cc pc = .ok (.lconst n, 1)) (hz : Int64.ofNat (n : Nat) = iL z) (k : J E G (pc + 1) lv (.long (iL z) :: st) S) : J E G pc lv st S := fun H locs ls hl hP hS => lv_lconst C.1 C.2.1 hd hz (k H locs ls hl hP hS)
theorem J_iload (C : jX E G cc nL own fr lo) {i : Nat} {x : Int32} (q : Nat) (hd : decode cc pc = .ok (.iload i, 2)) (hq : lv[q]? = some (i, .int x)) (k : J E G (pc + 2) lv (.int x :: st) S) : J E G pc lv st S := fun H locs ls hl hP hS => lv_iload C.1 C.2.1 hd (lv_at hl q hq) (k H locs ls hl hP hS)
theorem J_iload_n (C : jX E G cc nL own fr lo) {i : Fin 4} {x : Int32} (q : Nat) (hd : decode cc pc = .ok (.iload_n i, 1)) (hq : lv[q]? = some ((i : Nat), .int x)) (k : J E G (pc + 1) lv (.int x :: st) S) : J E G pc lv st S := fun H locs ls hl hP hS => lv_iload_n C.1 C.2.1 hd rfl (lv_at hl q hq) (k H locs ls hl hP hS)
theorem J_lload (C : jX E G cc nL own fr lo) {i : Nat} {x : Int64} (q : Nat) (hd : decode cc pc = .ok (.lload i, 2)) (hq : lv[q]? = some (i, .long x)) (k : J E G (pc + 2) lv (.long x :: st) S) : J E G pc lv st S := fun H locs ls hl hP hS => lv_lload C.1 C.2.1 hd (lv_at hl q hq) (k H locs ls hl hP hS)
theorem J_aload (C : jX E G cc nL own fr lo) {i : Nat} {x : Nat} (q : Nat) (hd : decode cc pc = .ok (.aload i, 2)) (hq : lv[q]? = some (i, .ref x)) (k : J E G (pc + 2) lv (.ref x :: st) S) : J E G pc lv st S := fun H locs ls hl hP hS => lv_aload C.1 C.2.1 hd (lv_at hl q hq) (k H locs ls hl hP hS)
theorem J_aload_n (C : jX E G cc nL own fr lo) {i : Fin 4} {x : Nat} (q : Nat) (hd : decode cc pc = .ok (.aload_n i, 1)) (hq : lv[q]? = some ((i : Nat), .ref x)) (k : J E G (pc + 1) lv (.ref x :: st) S) : J E G pc lv st S := fun H locs ls hl hP hS => lv_aload_n C.1 C.2.1 hd rfl (lv_at hl q hq) (k H locs ls hl hP hS)
theorem J_istore (C : jX E G cc nL own fr lo) {i : Nat} {x : Int32} (hd : decode cc pc = .ok (.istore i, 2)) (hn : i < nL) (hl' : (i, Value.int x) :: lv.filter (fun q => !(q.1 == i) && !(q.1 + 1 == i && q.2.category == 2)) = lv') (k : J E G (pc + 2) lv' st S) : J E G pc lv (.int x :: st) S := fun H locs ls hl hP hS => lv_istore C.1 C.2.1 hd hl (by rw [C.2.2.1]; exact hn) hl' (fun ls' hl'' => k H locs ls' hl'' hP hS)
theorem J_istore_n (C : jX E G cc nL own fr lo) {i : Fin 4} {x : Int32} (hd : decode cc pc = .ok (.istore_n i, 1)) (hn : (i : Nat) < nL) (hl' : ((i : Nat), Value.int x) :: lv.filter (fun q => !(q.1 == (i : Nat)) && !(q.1 + 1 == (i : Nat) && q.2.category == 2)) = lv') (k : J E G (pc + 1) lv' st S) : J E G pc lv (.int x :: st) S := fun H locs ls hl hP hS => lv_istore_n C.1 C.2.1 hd rfl hl (by rw [C.2.2.1]; exact hn) hl' (fun ls' hl'' => k H locs ls' hl'' hP hS)
theorem J_lstore (C : jX E G cc nL own fr lo) {i : Nat} {x : Int64} (hd : decode cc pc = .ok (.lstore i, 2)) (hn : i + 1 < nL) (hl' : (i, Value.long x) :: lv.filter (fun q => !(q.1 == i) && (!(q.1 == i + 1) && !(q.1 + 1 == i && q.2.category == 2))) = lv') (k : J E G (pc + 2) lv' st S) : J E G pc lv (.long x :: st) S := fun H locs ls hl hP hS => lv_lstore C.1 C.2.1 hd hl (by rw [C.2.2.1]; exact hn) hl' (fun ls' hl'' => k H locs ls' hl'' hP hS)
theorem J_iinc (C : jX E G cc nL own fr lo) {i : Nat} {n a : Int} (q : Nat) (hd : decode cc pc = .ok (.iinc i n, 3)) (hq : lv[q]? = some (i, .int (iI a))) (hn : i < nL) (hl' : (i, Value.int (iI (a + n))) :: lv.filter (fun q => !(q.1 == i) && !(q.1 + 1 == i && q.2.category == 2)) = lv') (k : J E G (pc + 3) lv' st S) : J E G pc lv st S := fun H locs ls hl hP hS => lv_iinc (v := iI (a + n)) C.1 C.2.1 hd hl hq (iI_add a n) (by rw [C.2.2.1]; exact hn) hl' (fun ls' hl'' => k H locs ls' hl'' hP hS)
theorem J_iadd (C : jX E G cc nL own fr lo) {a b : Int} (hd : decode cc pc = .ok (.iadd, 1)) (k : J E G (pc + 1) lv (.int (iI (a + b)) :: st) S) : J E G pc lv (.int (iI b) :: .int (iI a) :: st) S := fun H locs ls hl hP hS => lv_iadd C.1 C.2.1 hd (by rw [iI_add]; exact k H locs ls hl hP hS)
theorem J_isub (C : jX E G cc nL own fr lo) {a b : Int} (hd : decode cc pc = .ok (.isub, 1)) (k : J E G (pc + 1) lv (.int (iI (a - b)) :: st) S) : J E G pc lv (.int (iI b) :: .int (iI a) :: st) S := fun H locs ls hl hP hS => lv_isub C.1 C.2.1 hd (by rw [iI_sub]; exact k H locs ls hl hP hS)
theorem J_imul (C : jX E G cc nL own fr lo) {a b : Int} (hd : decode cc pc = .ok (.imul, 1)) (k : J E G (pc + 1) lv (.int (iI (a * b)) :: st) S) : J E G pc lv (.int (iI b) :: .int (iI a) :: st) S := fun H locs ls hl hP hS => lv_imul C.1 C.2.1 hd (by rw [iI_mul]; exact k H locs ls hl hP hS)
theorem J_ineg (C : jX E G cc nL own fr lo) {a : Int} (hd : decode cc pc = .ok (.ineg, 1)) (k : J E G (pc + 1) lv (.int (iI (-a)) :: st) S) : J E G pc lv (.int (iI a) :: st) S := fun H locs ls hl hP hS => lv_ineg C.1 C.2.1 hd (by rw [iI_neg]; exact k H locs ls hl hP hS)
theorem J_idiv (C : jX E G cc nL own fr lo) {a b : Int} (hd : decode cc pc = .ok (.idiv, 1)) (ha : 0 ≤ a) (ha2 : a ≤ 2147483647) (hb : 0 < b) (hb2 : b ≤ 2147483647) (k : J E G (pc + 1) lv (.int (iI (a / b)) :: st) S) : J E G pc lv (.int (iI b) :: .int (iI a) :: st) S := fun H locs ls hl hP hS => lv_idiv C.1 C.2.1 hd (iI_nz (by omega) (by omega)) (by rw [iI_div ha ha2 hb hb2]; exact k H locs ls hl hP hS)
theorem J_irem (C : jX E G cc nL own fr lo) {a b : Int} (hd : decode cc pc = .ok (.irem, 1)) (ha : 0 ≤ a) (ha2 : a ≤ 2147483647) (hb : 0 < b) (hb2 : b ≤ 2147483647) (k : J E G (pc + 1) lv (.int (iI (a % b)) :: st) S) : J E G pc lv (.int (iI b) :: .int (iI a) :: st) S := fun H locs ls hl hP hS => lv_irem C.1 C.2.1 hd (iI_nz (by omega) (by omega)) (by rw [iI_rem ha ha2 hb hb2]; exact k H locs ls hl hP hS)
theorem J_ishl (C : jX E G cc nL own fr lo) {a b : Int} (hd : decode cc pc = .ok (.ishl, 1)) (h0 : 0 ≤ b) (h1 : b < 32) (k : J E G (pc + 1) lv (.int (iI (a * 2 ^ b.toNat)) :: st) S) : J E G pc lv (.int (iI b) :: .int (iI a) :: st) S := fun H locs ls hl hP hS => lv_ishl C.1 C.2.1 hd (by rw [iI_shl h0 h1]; exact k H locs ls hl hP hS)
theorem J_ishr (C : jX E G cc nL own fr lo) {a b : Int} (hd : decode cc pc = .ok (.ishr, 1)) (ha : inR a) (h0 : 0 ≤ b) (h1 : b < 32) (k : J E G (pc + 1) lv (.int (iI (a / 2 ^ b.toNat)) :: st) S) : J E G pc lv (.int (iI b) :: .int (iI a) :: st) S := fun H locs ls hl hP hS => lv_ishr C.1 C.2.1 hd (by rw [iI_shr ha h0 h1]; exact k H locs ls hl hP hS)
/-- any of iand, ior, ixor: the answer's number is told -/
theorem J_iand (C : jX E G cc nL own fr lo) {x y : Int32} (z : Int) (hd : decode cc pc = .ok (.iand, 1)) (hz : x &&& y = iI z) (k : J E G (pc + 1) lv (.int (iI z) :: st) S) : J E G pc lv (.int y :: .int x :: st) S := fun H locs ls hl hP hS => lv_iand C.1 C.2.1 hd (by rw [hz]; exact k H locs ls hl hP hS)
theorem J_ior (C : jX E G cc nL own fr lo) {x y : Int32} (z : Int) (hd : decode cc pc = .ok (.ior, 1)) (hz : x ||| y = iI z) (k : J E G (pc + 1) lv (.int (iI z) :: st) S) : J E G pc lv (.int y :: .int x :: st) S := fun H locs ls hl hP hS => lv_ior C.1 C.2.1 hd (by rw [hz]; exact k H locs ls hl hP hS)
theorem J_ixor (C : jX E G cc nL own fr lo) {x y : Int32} (z : Int) (hd : decode cc pc = .ok (.ixor, 1)) (hz : x ^^^ y = iI z) (k : J E G (pc + 1) lv (.int (iI z) :: st) S) : J E G pc lv (.int y :: .int x :: st) S := fun H locs ls hl hP hS => lv_ixor C.1 C.2.1 hd (by rw [hz]; exact k H locs ls hl hP hS)
theorem J_iushr (C : jX E G cc nL own fr lo) {x y : Int32} (z : Int32) (hd : decode cc pc = .ok (.iushr, 1)) (hz : (x.toUInt32 >>> (y.toUInt32 &&& Int32.toUInt32 31)).toInt32 = z) (k : J E G (pc + 1) lv (.int z :: st) S) : J E G pc lv (.int y :: .int x :: st) S := fun H locs ls hl hP hS => lv_iushr C.1 C.2.1 hd hz (k H locs ls hl hP hS)
theorem J_i2l (C : jX E G cc nL own fr lo) {a : Int} (hd : decode cc pc = .ok (.i2l, 1)) (ha : inR a) (k : J E G (pc + 1) lv (.long (iL a) :: st) S) : J E G pc lv (.int (iI a) :: st) S := fun H locs ls hl hP hS => lv_i2l C.1 C.2.1 hd (iI_l ha) (k H locs ls hl hP hS)
theorem J_l2i (C : jX E G cc nL own fr lo) {a : Int} (hd : decode cc pc = .ok (.l2i, 1)) (k : J E G (pc + 1) lv (.int (iI a) :: st) S) : J E G pc lv (.long (iL a) :: st) S := fun H locs ls hl hP hS => lv_l2i C.1 C.2.1 hd (iL_i a) (k H locs ls hl hP hS)
theorem J_ladd (C : jX E G cc nL own fr lo) {a b : Int} (hd : decode cc pc = .ok (.ladd, 1)) (k : J E G (pc + 1) lv (.long (iL (a + b)) :: st) S) : J E G pc lv (.long (iL b) :: .long (iL a) :: st) S := fun H locs ls hl hP hS => lv_ladd C.1 C.2.1 hd (by rw [iL_add]; exact k H locs ls hl hP hS)
theorem J_lmul (C : jX E G cc nL own fr lo) {a b : Int} (hd : decode cc pc = .ok (.lmul, 1)) (k : J E G (pc + 1) lv (.long (iL (a * b)) :: st) S) : J E G pc lv (.long (iL b) :: .long (iL a) :: st) S := fun H locs ls hl hP hS => lv_lmul C.1 C.2.1 hd (by rw [iL_mul]; exact k H locs ls hl hP hS)
theorem J_lcmp (C : jX E G cc nL own fr lo) {a b : Int} (hd : decode cc pc = .ok (.lcmp, 1)) (ha : inL a) (hb : inL b) (k : J E G (pc + 1) lv (.int (iI (if b < a then 1 else if a = b then 0 else -1)) :: st) S) : J E G pc lv (.long (iL b) :: .long (iL a) :: st) S := fun H locs ls hl hP hS => W.lcmp C.1 C.2.1 hd (by rw [lg_cmp_i ha hb]; exact k H locs ls hl hP hS)
theorem J_dup (C : jX E G cc nL own fr lo) {v : Value} (hd : decode cc pc = .ok (.dup, 1)) (hv : v.category = 1) (k : J E G (pc + 1) lv (v :: v :: st) S) : J E G pc lv (v :: st) S := fun H locs ls hl hP hS => lv_dup C.1 C.2.1 hd hv (k H locs ls hl hP hS)
theorem J_dup2 (C : jX E G cc nL own fr lo) {v w : Value} (hd : decode cc pc = .ok (.dup2, 1)) (hv : v.category = 1) (hw : w.category = 1) (k : J E G (pc + 1) lv (v :: w :: v :: w :: st) S) : J E G pc lv (v :: w :: st) S := fun H locs ls hl hP hS => lv_dup2_11 C.1 C.2.1 hd hv hw (k H locs ls hl hP hS)
theorem J_dup_x1 (C : jX E G cc nL own fr lo) {v w : Value} (hd : decode cc pc = .ok (.dup_x1, 1)) (hv : v.category = 1) (hw : w.category = 1) (k : J E G (pc + 1) lv (v :: w :: v :: st) S) : J E G pc lv (v :: w :: st) S := fun H locs ls hl hP hS => lv_dup_x1 C.1 C.2.1 hd hv hw (k H locs ls hl hP hS)
theorem J_dup_x2 (C : jX E G cc nL own fr lo) {v w u : Value} (hd : decode cc pc = .ok (.dup_x2, 1)) (hv : v.category = 1) (hw : w.category = 1) (hu : u.category = 1) (k : J E G (pc + 1) lv (v :: w :: u :: v :: st) S) : J E G pc lv (v :: w :: u :: st) S := fun H locs ls hl hP hS => lv_dup_x2 C.1 C.2.1 hd hv hw hu (k H locs ls hl hP hS)
theorem J_goto (C : jX E G cc nL own fr lo) {off : Int} (tgt : Nat) (hd : decode cc pc = .ok (.goto off, 3)) (ht : (pc : Int) + off = (tgt : Int)) (k : J E G tgt lv st S) : J E G pc lv st S := fun H locs ls hl hP hS => lv_goto C.1 C.2.1 hd ht (k H locs ls hl hP hS)
theorem h00 : inR 0 := by omega
theorem J_if_eq (C : jX E G cc nL own fr lo) {a off : Int} (tgt : Nat) (hd : decode cc pc = .ok (.ifCond .eq off, 3)) (ht : (pc : Int) + off = (tgt : Int)) (ha : inR a) (kt : a = 0 → J E G tgt lv st S) (kf : ¬ a = 0 → J E G (pc + 3) lv st S) : J E G pc lv (.int (iI a) :: st) S := fun H locs ls hl hP hS => lv_if_eq C.1 C.2.1 hd ht (fun h => kt (by rw [← iI_zero, iI_inj ha h00] at h; exact h) H locs ls hl hP hS) (fun h => kf (by rw [← iI_zero, iI_inj ha h00] at h; exact h) H locs ls hl hP hS)
theorem J_if_ne (C : jX E G cc nL own fr lo) {a off : Int} (tgt : Nat) (hd : decode cc pc = .ok (.ifCond .ne off, 3)) (ht : (pc : Int) + off = (tgt : Int)) (ha : inR a) (kt : ¬ a = 0 → J E G tgt lv st S) (kf : a = 0 → J E G (pc + 3) lv st S) : J E G pc lv (.int (iI a) :: st) S := fun H locs ls hl hP hS => lv_if_ne C.1 C.2.1 hd ht (fun h => kt (by rw [← iI_zero, iI_inj ha h00] at h; exact h) H locs ls hl hP hS) (fun h => kf (by rw [← iI_zero, iI_inj ha h00] at h; exact h) H locs ls hl hP hS)
theorem J_if_lt (C : jX E G cc nL own fr lo) {a off : Int} (tgt : Nat) (hd : decode cc pc = .ok (.ifCond .lt off, 3)) (ht : (pc : Int) + off = (tgt : Int)) (ha : inR a) (kt : a < 0 → J E G tgt lv st S) (kf : ¬ a < 0 → J E G (pc + 3) lv st S) : J E G pc lv (.int (iI a) :: st) S := fun H locs ls hl hP hS => lv_if_lt C.1 C.2.1 hd ht (fun h => kt (by rw [← iI_zero, iI_lt ha h00] at h; exact h) H locs ls hl hP hS) (fun h => kf (by rw [← iI_zero, iI_lt ha h00] at h; exact h) H locs ls hl hP hS)
theorem J_if_ge (C : jX E G cc nL own fr lo) {a off : Int} (tgt : Nat) (hd : decode cc pc = .ok (.ifCond .ge off, 3)) (ht : (pc : Int) + off = (tgt : Int)) (ha : inR a) (kt : 0 ≤ a → J E G tgt lv st S) (kf : ¬ 0 ≤ a → J E G (pc + 3) lv st S) : J E G pc lv (.int (iI a) :: st) S := fun H locs ls hl hP hS => lv_if_ge C.1 C.2.1 hd ht (fun h => kt (by rw [← iI_zero, iI_le h00 ha] at h; exact h) H locs ls hl hP hS) (fun h => kf (by rw [← iI_zero, iI_le h00 ha] at h; exact h) H locs ls hl hP hS)
theorem J_if_gt (C : jX E G cc nL own fr lo) {a off : Int} (tgt : Nat) (hd : decode cc pc = .ok (.ifCond .gt off, 3)) (ht : (pc : Int) + off = (tgt : Int)) (ha : inR a) (kt : 0 < a → J E G tgt lv st S) (kf : ¬ 0 < a → J E G (pc + 3) lv st S) : J E G pc lv (.int (iI a) :: st) S := fun H locs ls hl hP hS => lv_if_gt C.1 C.2.1 hd ht (fun h => kt (by rw [← iI_zero, iI_lt h00 ha] at h; exact h) H locs ls hl hP hS) (fun h => kf (by rw [← iI_zero, iI_lt h00 ha] at h; exact h) H locs ls hl hP hS)
theorem J_if_le (C : jX E G cc nL own fr lo) {a off : Int} (tgt : Nat) (hd : decode cc pc = .ok (.ifCond .le off, 3)) (ht : (pc : Int) + off = (tgt : Int)) (ha : inR a) (kt : a ≤ 0 → J E G tgt lv st S) (kf : ¬ a ≤ 0 → J E G (pc + 3) lv st S) : J E G pc lv (.int (iI a) :: st) S := fun H locs ls hl hP hS => lv_if_le C.1 C.2.1 hd ht (fun h => kt (by rw [← iI_zero, iI_le ha h00] at h; exact h) H locs ls hl hP hS) (fun h => kf (by rw [← iI_zero, iI_le ha h00] at h; exact h) H locs ls hl hP hS)
theorem J_icmp_eq (C : jX E G cc nL own fr lo) {a b off : Int} (tgt : Nat) (hd : decode cc pc = .ok (.if_icmp .eq off, 3)) (ht : (pc : Int) + off = (tgt : Int)) (ha : inR a) (hb : inR b) (kt : a = b → J E G tgt lv st S) (kf : ¬ a = b → J E G (pc + 3) lv st S) : J E G pc lv (.int (iI b) :: .int (iI a) :: st) S := fun H locs ls hl hP hS => lv_icmp_eq C.1 C.2.1 hd ht (fun h => kt (by rw [iI_inj ha hb] at h; exact h) H locs ls hl hP hS) (fun h => kf (by rw [iI_inj ha hb] at h; exact h) H locs ls hl hP hS)
theorem J_icmp_ne (C : jX E G cc nL own fr lo) {a b off : Int} (tgt : Nat) (hd : decode cc pc = .ok (.if_icmp .ne off, 3)) (ht : (pc : Int) + off = (tgt : Int)) (ha : inR a) (hb : inR b) (kt : ¬ a = b → J E G tgt lv st S) (kf : a = b → J E G (pc + 3) lv st S) : J E G pc lv (.int (iI b) :: .int (iI a) :: st) S := fun H locs ls hl hP hS => lv_icmp_ne C.1 C.2.1 hd ht (fun h => kt (by rw [iI_inj ha hb] at h; exact h) H locs ls hl hP hS) (fun h => kf (by rw [iI_inj ha hb] at h; exact h) H locs ls hl hP hS)
theorem J_icmp_lt (C : jX E G cc nL own fr lo) {a b off : Int} (tgt : Nat) (hd : decode cc pc = .ok (.if_icmp .lt off, 3)) (ht : (pc : Int) + off = (tgt : Int)) (ha : inR a) (hb : inR b) (kt : a < b → J E G tgt lv st S) (kf : ¬ a < b → J E G (pc + 3) lv st S) : J E G pc lv (.int (iI b) :: .int (iI a) :: st) S := fun H locs ls hl hP hS => lv_icmp_lt C.1 C.2.1 hd ht (fun h => kt (by rw [iI_lt ha hb] at h; exact h) H locs ls hl hP hS) (fun h => kf (by rw [iI_lt ha hb] at h; exact h) H locs ls hl hP hS)
theorem J_icmp_ge (C : jX E G cc nL own fr lo) {a b off : Int} (tgt : Nat) (hd : decode cc pc = .ok (.if_icmp .ge off, 3)) (ht : (pc : Int) + off = (tgt : Int)) (ha : inR a) (hb : inR b) (kt : b ≤ a → J E G tgt lv st S) (kf : ¬ b ≤ a → J E G (pc + 3) lv st S) : J E G pc lv (.int (iI b) :: .int (iI a) :: st) S := fun H locs ls hl hP hS => lv_icmp_ge C.1 C.2.1 hd ht (fun h => kt (by rw [iI_le hb ha] at h; exact h) H locs ls hl hP hS) (fun h => kf (by rw [iI_le hb ha] at h; exact h) H locs ls hl hP hS)
theorem J_icmp_gt (C : jX E G cc nL own fr lo) {a b off : Int} (tgt : Nat) (hd : decode cc pc = .ok (.if_icmp .gt off, 3)) (ht : (pc : Int) + off = (tgt : Int)) (ha : inR a) (hb : inR b) (kt : b < a → J E G tgt lv st S) (kf : ¬ b < a → J E G (pc + 3) lv st S) : J E G pc lv (.int (iI b) :: .int (iI a) :: st) S := fun H locs ls hl hP hS => lv_icmp_gt C.1 C.2.1 hd ht (fun h => kt (by rw [iI_lt hb ha] at h; exact h) H locs ls hl hP hS) (fun h => kf (by rw [iI_lt hb ha] at h; exact h) H locs ls hl hP hS)
theorem J_icmp_le (C : jX E G cc nL own fr lo) {a b off : Int} (tgt : Nat) (hd : decode cc pc = .ok (.if_icmp .le off, 3)) (ht : (pc : Int) + off = (tgt : Int)) (ha : inR a) (hb : inR b) (kt : a ≤ b → J E G tgt lv st S) (kf : ¬ a ≤ b → J E G (pc + 3) lv st S) : J E G pc lv (.int (iI b) :: .int (iI a) :: st) S := fun H locs ls hl hP hS => lv_icmp_le C.1 C.2.1 hd ht (fun h => kt (by rw [iI_le ha hb] at h; exact h) H locs ls hl hP hS) (fun h => kf (by rw [iI_le ha hb] at h; exact h) H locs ls hl hP hS)
/-- the value on top has another name -/
theorem J_top {a b : Int} (h : a = b) (k : J E G pc lv (.int (iI b) :: st) S) : J E G pc lv (.int (iI a) :: st) S := h ▸ k
theorem J_mem {S' : jMem} (h : S = S') (k : J E G pc lv st S') : J E G pc lv st S := h ▸ k
/-- fewer locals, in any order -/
theorem J_lv (ks : List Nat) (h : lv_pick lv ks = lv') (k : J E G pc lv' st S) : J E G pc lv st S := fun H locs ls hl hP hS => k H locs ls (lv_sub hl ks h) hP hS
theorem J_get (C : jX E G cc nL own fr lo) {Cn : String} {T : u_T} {N ci idx j c k : Nat} {fl : List Nat} (hk : k < jn G) (hsh : jsh G k = .inl (ci, fl)) (hc : vwCl[ci]? = some (Cn, T, N)) (hin : ∀ w ∈ u_ws Cn T N, w ∈ lw_good) (hj : j < N) (hw : Cond.fieldLink own idx (T j).1 (T j).2.1 (T j).2.2.1 ∈ lw_good) (hf : fl[j]? = some c)
    (hd : decode cc pc = .ok (.getfield idx, 3)) (kk : J E G (pc + 3) lv (jfv (jad G) c (S k j) :: st) S) : J E G pc lv (.ref (jad G k) :: st) S := fun H locs ls hl hP hS => by
  obtain ⟨hx, hb, hml, hown, hts, hK, hT, hI, -⟩ := C
  have he := jws_get G S hk
  rw [hsh] at he
  have hv := jfs_get (jad G) (S k) fl 0 j c hf
  rw [Nat.zero_add] at hv
  exact va_get (D := jD G) (ci := ci) (C := Cn) (T := T) (N := N) (v := jfv (jad G) c (S k j)) hx hb hts hin hown hK hP k he hc j hj (hts _ hw) (fun _ h => h) hv hd (kk H locs ls hl hP hS)
theorem J_put (C : jX E G cc nL own fr lo) {Cn : String} {T : u_T} {N ci idx j c k : Nat} {fl : List Nat} (hk : k < jn G) (hsh : jsh G k = .inl (ci, fl)) (hc : vwCl[ci]? = some (Cn, T, N)) (hin : ∀ w ∈ u_ws Cn T N, w ∈ lw_good) (ty0 : Nat → FieldType) (hty : ∀ k, k < N → parseFieldDescriptor (T k).2.2.1 = some (ty0 k)) (hnm : ∀ a, a < N → ∀ b, b < N → a ≠ b → (T a).2.1 ≠ (T b).2.1) (hj : j < N) (hw : Cond.fieldLink own idx (T j).1 (T j).2.1 (T j).2.2.1 ∈ lw_good) (hfin : (T j).2.2.2 = false) (hf : fl[j]? = some c) {x : Int} (hn : narrow (ty0 j) (jfv (jad G) c x) = jfv (jad G) c x) (hfit : fits (ty0 j) (jfv (jad G) c x) = true)
    (hd : decode cc pc = .ok (.putfield idx, 3)) (kk : J E G (pc + 3) lv st (up2 S k j x)) : J E G pc lv (jfv (jad G) c x :: .ref (jad G k) :: st) S := fun H locs ls hl hP hS => by
  obtain ⟨hx, hb, hml, hown, hts, hK, hT, hI, -⟩ := C
  have he := jws_get G S hk
  rw [hsh] at he
  refine va_put (D := jD G) (ci := ci) (C := Cn) (T := T) (N := N) (v := jfv (jad G) c x) (ty := ty0 j) hx hb hts hin ty0 hty hnm hown hK hP (jD_of G S hI) hS k he hc j hj (hts _ hw) (fun _ h => h) hfin (hty j hj) hn hfit (by rw [jfs_len]; exact (List.getElem?_eq_some_iff.mp hf).1) hd (fun H1 locs1 hP1 hD1 hS1 => ?_)
  have hs := jfs_set (jad G) (S k) (up2 S k j x k) fl 0 j c hf (fun i hi => up2_a S k x (by omega))
  rw [Nat.zero_add, up2_eq] at hs
  rw [hs] at hP1
  rw [jws_set G S (up2 S k j x) hk (by rw [hsh]; rfl) (fun i hi => up2_k S j x hi)] at hP1
  exact kk H1 locs1 ls hl hP1 hS1
theorem J_ald (C : jX E G cc nL own fr lo) {k n : Nat} {a : Int} (hk : k < jn G) (hsh : jsh G k = .inr (false, n)) (hn : n ≤ 2147483647) (h0 : 0 ≤ a) (h1 : a < n) (hd : decode cc pc = .ok (.iaload, 1)) (kk : J E G (pc + 1) lv (.int (iI (S k a)) :: st) S) : J E G pc lv (.int (iI a) :: .ref (jad G k) :: st) S := fun H locs ls hl hP hS => by
  obtain ⟨hx, hb, hml, hown, hts, hK, hT, hI, -⟩ := C
  have he := jws_get G S hk
  rw [hsh] at he
  have h2 : a ≤ 2147483647 := by omega
  refine va_iald (D := jD G) hx hb hK hP k 0 he rfl (iI_in h0 h1 h2) hd ?_
  rw [iI_cl h0 h2, Int.toNat_of_nonneg h0]
  exact kk H locs ls hl hP hS
theorem J_ast (C : jX E G cc nL own fr lo) {k n : Nat} {a x : Int} (hk : k < jn G) (hsh : jsh G k = .inr (false, n)) (hn : n ≤ 2147483647) (h0 : 0 ≤ a) (h1 : a < n) (hd : decode cc pc = .ok (.iastore, 1)) (kk : J E G (pc + 1) lv st (up2 S k a x)) : J E G pc lv (.int (iI x) :: .int (iI a) :: .ref (jad G k) :: st) S := fun H locs ls hl hP hS => by
  obtain ⟨hx, hb, hml, hown, hts, hK, hT, hI, -⟩ := C
  have he := jws_get G S hk
  rw [hsh] at he
  have h2 : a ≤ 2147483647 := by omega
  refine va_iast (D := jD G) hx hb hK hP (jD_of G S hI) hS k 0 he rfl (iI_in h0 h1 h2) hd (fun H1 locs1 hP1 hD1 hS1 => ?_)
  rw [jws_set G S (up2 S k a x) hk ?_ (fun i hi => up2_k S a x hi)] at hP1
  · exact kk H1 locs1 ls hl hP1 hS1
  · rw [hsh]
    show _ = (.inl (_, n, .inl (fun j : Nat => iI (up2 S k a x k j))) : va_E)
    congr 4
    funext j
    unfold upd up2
    rw [iI_cl h0 h2]
    by_cases hj : j = a.toNat
    · rw [if_pos hj, if_pos ⟨rfl, by omega⟩]
    · rw [if_neg hj, if_neg (fun q => hj (by omega))]
theorem J_zld (C : jX E G cc nL own fr lo) {k n : Nat} {a : Int} (hk : k < jn G) (hsh : jsh G k = .inr (true, n)) (hn : n ≤ 2147483647) (h0 : 0 ≤ a) (h1 : a < n) (hd : decode cc pc = .ok (.baload, 1)) (kk : J E G (pc + 1) lv (.int (iI (S k a)) :: st) S) : J E G pc lv (.int (iI a) :: .ref (jad G k) :: st) S := fun H locs ls hl hP hS => by
  obtain ⟨hx, hb, hml, hown, hts, hK, hT, hI, -⟩ := C
  have he := jws_get G S hk
  rw [hsh] at he
  have h2 : a ≤ 2147483647 := by omega
  refine va_zald (D := jD G) hx hb hK hP k 1 he rfl (iI_in h0 h1 h2) hd ?_
  rw [iI_cl h0 h2, Int.toNat_of_nonneg h0]
  exact kk H locs ls hl hP hS
theorem iI_nar {x : Int} (h : x = 0 ∨ x = 1) : vp_nar .boolean (iI x) = iI x := by
  rcases h with rfl | rfl <;> decide
theorem J_zst (C : jX E G cc nL own fr lo) {k n : Nat} {a x : Int} (hk : k < jn G) (hsh : jsh G k = .inr (true, n)) (hn : n ≤ 2147483647) (h0 : 0 ≤ a) (h1 : a < n) (hxx : x = 0 ∨ x = 1) (hd : decode cc pc = .ok (.bastore, 1)) (kk : J E G (pc + 1) lv st (up2 S k a x)) : J E G pc lv (.int (iI x) :: .int (iI a) :: .ref (jad G k) :: st) S := fun H locs ls hl hP hS => by
  obtain ⟨hx, hb, hml, hown, hts, hK, hT, hI, -⟩ := C
  have he := jws_get G S hk
  rw [hsh] at he
  have h2 : a ≤ 2147483647 := by omega
  refine va_zast (D := jD G) hx hb hK hP (jD_of G S hI) hS k 1 he rfl (iI_in h0 h1 h2) hd (fun H1 locs1 hP1 hD1 hS1 => ?_)
  rw [iI_nar hxx] at hP1
  rw [jws_set G S (up2 S k a x) hk ?_ (fun i hi => up2_k S a x hi)] at hP1
  · exact kk H1 locs1 ls hl hP1 hS1
  · rw [hsh]
    show _ = (.inl (_, n, .inl (fun j : Nat => iI (up2 S k a x k j))) : va_E)
    congr 4
    funext j
    unfold upd up2
    rw [iI_cl h0 h2]
    by_cases hj : j = a.toNat
    · rw [if_pos hj, if_pos ⟨rfl, by omega⟩]
    · rw [if_neg hj, if_neg (fun q => hj (by omega))]
theorem J_alen (C : jX E G cc nL own fr lo) {k n : Nat} (hk : k < jn G) (hsh : jsh G k = .inr (false, n)) (hd : decode cc pc = .ok (.arraylength, 1)) (kk : J E G (pc + 1) lv (.int (iI n) :: st) S) : J E G pc lv (.ref (jad G k) :: st) S := fun H locs ls hl hP hS => by
  obtain ⟨hx, hb, hml, hown, hts, hK, hT, hI, -⟩ := C
  have he := jws_get G S hk
  rw [hsh] at he
  exact va_alen (D := jD G) (v := iI n) hx hb hK hP k 0 he rfl Int32.ofInt_eq_ofNat.symm hd (kk H locs ls hl hP hS)
/-- the class's table: its reference, a place of it -/
theorem J_gets (C : jX E G cc nL own fr lo) {idx : Nat} (hw : Cond.fieldLink own idx "PlaceRectangles$Stock" "SIDES_OF_TURNS" "[I" ∈ lw_good) (hd : decode cc pc = .ok (.getstatic idx, 3)) (kk : J E G (pc + 3) lv (.ref (jt G) :: st) S) : J E G pc lv st S := fun H locs ls hl hP hS => by
  obtain ⟨hx, hb, hml, hown, hts, hK, hT, hI, -⟩ := C
  exact va_gets hx hb hT.1 hS hown (hts _ hw) (fun _ h => h) hd (kk H locs ls hl hP hS)
theorem J_tld (C : jX E G cc nL own fr lo) {a : Int} (h0 : 0 ≤ a) (h1 : a < 18) (hd : decode cc pc = .ok (.iaload, 1)) (kk : J E G (pc + 1) lv (.int (iI (sd a)) :: st) S) : J E G pc lv (.int (iI a) :: .ref (jt G) :: st) S := fun H locs ls hl hP hS => by
  obtain ⟨hx, hb, hml, hown, hts, hK, hT, hI, -⟩ := C
  refine va_ti hx hb hT.2.1 hS (iI_in h0 (by omega) (by omega)) (v := .int (iI (sd a))) ?_ hd (kk H locs ls hl hP hS)
  show Value.int (iI (sd ((iI a).toNatClampNeg : Nat))) = _
  rw [iI_cl h0 (by omega), Int.toNat_of_nonneg h0]
/-- ends of methods -/
theorem J_iret (R : jR E G (some .int) post) (C : jX E G cc nL own fr lo) {a : Int} (hd : decode cc pc = .ok (.ireturn, 1)) (h : post (some (.int (iI a))) S) : J E G pc lv [.int (iI a)] S := fun H locs ls hl hP hS => by
  obtain ⟨p, e, RR, s, m, args, below, meth, c, cells, slots, Q⟩ := E
  obtain ⟨hQ, hr, hlk⟩ := R
  obtain ⟨hx, hb, -⟩ := C
  dsimp only at hQ hr hlk hx hb
  subst hQ
  exact W.iret (v := iI a) hx hb hr (fun t ht hW => ⟨⟨_, S, rfl, h, by rw [ht]; exact hP⟩, hS.F ht⟩) hS.2.2 hd hlk
theorem J_zret (R : jR E G (some .boolean) post) (C : jX E G cc nL own fr lo) {a : Int} (hd : decode cc pc = .ok (.ireturn, 1)) (ha : a = 0 ∨ a = 1) (h : post (some (.int (iI a))) S) : J E G pc lv [.int (iI a)] S := fun H locs ls hl hP hS => by
  obtain ⟨p, e, RR, s, m, args, below, meth, c, cells, slots, Q⟩ := E
  obtain ⟨hQ, hr, hlk⟩ := R
  obtain ⟨hx, hb, -⟩ := C
  dsimp only at hQ hr hlk hx hb
  subst hQ
  exact W.zret (v := iI a) (ty := .boolean) hx hb hr (by rcases ha with rfl | rfl <;> decide) (fun t ht hW => ⟨⟨_, S, rfl, h, by rw [ht]; exact hP⟩, hS.F ht⟩) hS.2.2 hd hlk
theorem J_lret (R : jR E G (some .long) post) (C : jX E G cc nL own fr lo) {a : Int} (hd : decode cc pc = .ok (.lreturn, 1)) (h : post (some (.long (iL a))) S) : J E G pc lv [.long (iL a)] S := fun H locs ls hl hP hS => by
  obtain ⟨p, e, RR, s, m, args, below, meth, c, cells, slots, Q⟩ := E
  obtain ⟨hQ, hr, hlk⟩ := R
  obtain ⟨hx, hb, -⟩ := C
  dsimp only at hQ hr hlk hx hb
  subst hQ
  exact W.lret (v := iL a) hx hb hr (fun t ht hW => ⟨⟨_, S, rfl, h, by rw [ht]; exact hP⟩, hS.F ht⟩) hS.2.2 hd hlk
theorem J_vret (R : jR E G none post) (C : jX E G cc nL own fr lo) (hd : decode cc pc = .ok (.return_, 1)) (h : post none S) : J E G pc lv [] S := fun H locs ls hl hP hS => by
  obtain ⟨p, e, RR, s, m, args, below, meth, c, cells, slots, Q⟩ := E
  obtain ⟨hQ, hr, hlk⟩ := R
  obtain ⟨hx, hb, -⟩ := C
  dsimp only at hQ hr hlk hx hb
  subst hQ
  exact W.vret hx hb hr (fun t ht hW => ⟨⟨_, S, rfl, h, by rw [ht]; exact hP⟩, hS.F ht⟩) hS.2.2 hd hlk
end JR
end
