/-! the shapes of the two components, and what they need of the tables -/
def csh (k : Nat) : jSh := ([.inl (5, [3, 8, 20, 24, 27]), .inl (4, [4, 5, 6, 7, 0]), .inr (false, 3), .inr (false, 24), .inr (false, 8), .inr (false, 8), .inl (3, [3, 9, 10, 11, 12, 13, 14, 15, 16, 17, 18, 19, 0, 0, 0, 0]), .inr (false, 8), .inr (false, 24), .inr (false, 8), .inr (false, 24), .inr (false, 24), .inr (false, 24), .inr (false, 24), .inr (false, 8), .inr (false, 8), .inr (false, 8), .inr (false, 8), .inl (2, [3, 21, 22, 23, 0]), .inr (false, 8), .inr (false, 24), .inr (false, 24), .inl (0, [20, 25, 26]), .inr (false, 60), .inr (false, 9), .inl (1, [3, 28, 29, 30, 31, 32, 0, 33, 0, 0]), .inr (false, 4), .inr (false, 1323), .inr (false, 144), .inr (false, 9), .inr (false, 48), .inr (false, 3)] : List jSh).getD k (.inr (false, 0))
def msh (k : Nat) : jSh := ([.inl (6, [3, 0, 4, 5, 6, 7, 8, 0, 0, 1, 9, 10, 11, 12, 13, 14, 15, 16, 17, 18, 19, 0, 20, 21, 22, 0, 23]), .inr (false, 3), .inr (false, 24), .inr (false, 8), .inr (false, 8), .inr (false, 8), .inr (false, 24), .inr (false, 8), .inr (false, 8), .inr (false, 8), .inr (false, 24), .inr (true, 3408), .inr (false, 144), .inr (false, 48), .inr (false, 20), .inr (false, 20), .inr (false, 20), .inr (false, 20), .inr (false, 20), .inr (false, 20), .inr (false, 20), .inr (false, 4)] : List jSh).getD k (.inr (false, 0))
def cG (G : jG) : Prop := jsh G = csh ∧ jn G = 32
def mG (G : jG) : Prop := jsh G = msh ∧ jn G = 22
set_option maxRecDepth 50000 in
theorem ku_X0 : ∀ w ∈ u_ws RX0 TX0 3, w ∈ lw_good := by decide +kernel
set_option maxRecDepth 50000 in
theorem ku_X1 : ∀ w ∈ u_ws RX1 TX1 10, w ∈ lw_good := by decide +kernel
set_option maxRecDepth 50000 in
theorem ku_X2 : ∀ w ∈ u_ws RX2 TX2 5, w ∈ lw_good := by decide +kernel
set_option maxRecDepth 50000 in
theorem ku_X3 : ∀ w ∈ u_ws RX3 TX3 16, w ∈ lw_good := by decide +kernel
set_option maxRecDepth 50000 in
theorem ku_X4 : ∀ w ∈ u_ws RX4 TX4 5, w ∈ lw_good := by decide +kernel
set_option maxRecDepth 50000 in
theorem ku_X5 : ∀ w ∈ u_ws RX5 TX5 5, w ∈ lw_good := by decide +kernel
set_option maxRecDepth 50000 in
theorem ku_X6 : ∀ w ∈ u_ws RX6 TX6 27, w ∈ lw_good := by decide +kernel
set_option maxRecDepth 50000 in
theorem kc_X0_build : jcalV yX0_build cX0_build 7 (some .int) 0 := ⟨⟨lw_good_of (List.mem_of_getElem? (i := 540) rfl) rfl, lw_good_of (List.mem_of_getElem? (i := 66) rfl) rfl, by decide +kernel, by decide +kernel, by decide +kernel⟩, lw_good_of (List.mem_of_getElem? (i := 538) rfl) rfl, lw_good_of (List.mem_of_getElem? (i := 539) rfl) rfl⟩
set_option maxRecDepth 50000 in
theorem kc_X0_write : jcalV yX0_write cX0_write 7 none 5 := ⟨⟨lw_good_of (List.mem_of_getElem? (i := 545) rfl) rfl, lw_good_of (List.mem_of_getElem? (i := 66) rfl) rfl, by decide +kernel, by decide +kernel, by decide +kernel⟩, lw_good_of (List.mem_of_getElem? (i := 544) rfl) rfl, lw_good_of (List.mem_of_getElem? (i := 18) rfl) rfl⟩
set_option maxRecDepth 50000 in
theorem kc_X0_axisOfCut : jcalV yX0_axisOfCut cX0_axisOfCut 3 (some .int) 1 := ⟨⟨lw_good_of (List.mem_of_getElem? (i := 549) rfl) rfl, lw_good_of (List.mem_of_getElem? (i := 66) rfl) rfl, by decide +kernel, by decide +kernel, by decide +kernel⟩, lw_good_of (List.mem_of_getElem? (i := 548) rfl) rfl, lw_good_of (List.mem_of_getElem? (i := 19) rfl) rfl⟩
set_option maxRecDepth 50000 in
theorem kc_X0_cutPlaces : jcalV yX0_cutPlaces cX0_cutPlaces 9 (some .int) 2 := ⟨⟨lw_good_of (List.mem_of_getElem? (i := 553) rfl) rfl, lw_good_of (List.mem_of_getElem? (i := 66) rfl) rfl, by decide +kernel, by decide +kernel, by decide +kernel⟩, lw_good_of (List.mem_of_getElem? (i := 552) rfl) rfl, lw_good_of (List.mem_of_getElem? (i := 20) rfl) rfl⟩
set_option maxRecDepth 50000 in
theorem kc_X0_boxesBefore : jcalV yX0_boxesBefore cX0_boxesBefore 6 (some .int) 3 := ⟨⟨lw_good_of (List.mem_of_getElem? (i := 559) rfl) rfl, lw_good_of (List.mem_of_getElem? (i := 66) rfl) rfl, by decide +kernel, by decide +kernel, by decide +kernel⟩, lw_good_of (List.mem_of_getElem? (i := 558) rfl) rfl, lw_good_of (List.mem_of_getElem? (i := 21) rfl) rfl⟩
set_option maxRecDepth 50000 in
theorem kc_X1_forget : jcalV yX1_forget cX1_forget 1 none 0 := ⟨⟨lw_good_of (List.mem_of_getElem? (i := 298) rfl) rfl, lw_good_of (List.mem_of_getElem? (i := 67) rfl) rfl, by decide +kernel, by decide +kernel, by decide +kernel⟩, lw_good_of (List.mem_of_getElem? (i := 296) rfl) rfl, lw_good_of (List.mem_of_getElem? (i := 297) rfl) rfl⟩
set_option maxRecDepth 50000 in
theorem kc_X1_lastFunction : jcalV yX1_lastFunction cX1_lastFunction 2 (some .int) 1 := ⟨⟨lw_good_of (List.mem_of_getElem? (i := 576) rfl) rfl, lw_good_of (List.mem_of_getElem? (i := 67) rfl) rfl, by decide +kernel, by decide +kernel, by decide +kernel⟩, lw_good_of (List.mem_of_getElem? (i := 575) rfl) rfl, lw_good_of (List.mem_of_getElem? (i := 22) rfl) rfl⟩
set_option maxRecDepth 50000 in
theorem kc_X1_isFunction : jcalV yX1_isFunction cX1_isFunction 3 (some .boolean) 2 := ⟨⟨lw_good_of (List.mem_of_getElem? (i := 572) rfl) rfl, lw_good_of (List.mem_of_getElem? (i := 67) rfl) rfl, by decide +kernel, by decide +kernel, by decide +kernel⟩, lw_good_of (List.mem_of_getElem? (i := 570) rfl) rfl, lw_good_of (List.mem_of_getElem? (i := 571) rfl) rfl⟩
set_option maxRecDepth 50000 in
theorem kc_X1_valueOf : jcalS yX1_valueOf cX1_valueOf 6 (some .int) 3 := ⟨⟨lw_good_of (List.mem_of_getElem? (i := 579) rfl) rfl, lw_good_of (List.mem_of_getElem? (i := 67) rfl) rfl, by decide +kernel, by decide +kernel, by decide +kernel⟩, lw_good_of (List.mem_of_getElem? (i := 578) rfl) rfl⟩
set_option maxRecDepth 50000 in
theorem kc_X1_prepare : jcalV yX1_prepare cX1_prepare 3 none 0 := ⟨⟨lw_good_of (List.mem_of_getElem? (i := 588) rfl) rfl, lw_good_of (List.mem_of_getElem? (i := 67) rfl) rfl, by decide +kernel, by decide +kernel, by decide +kernel⟩, lw_good_of (List.mem_of_getElem? (i := 586) rfl) rfl, lw_good_of (List.mem_of_getElem? (i := 587) rfl) rfl⟩
set_option maxRecDepth 50000 in
theorem kc_X1_tellValues : jcalV yX1_tellValues cX1_tellValues 5 none 1 := ⟨⟨lw_good_of (List.mem_of_getElem? (i := 592) rfl) rfl, lw_good_of (List.mem_of_getElem? (i := 67) rfl) rfl, by decide +kernel, by decide +kernel, by decide +kernel⟩, lw_good_of (List.mem_of_getElem? (i := 591) rfl) rfl, lw_good_of (List.mem_of_getElem? (i := 23) rfl) rfl⟩
set_option maxRecDepth 50000 in
theorem kc_X1_tellTurns : jcalV yX1_tellTurns cX1_tellTurns 6 (some .int) 2 := ⟨⟨lw_good_of (List.mem_of_getElem? (i := 597) rfl) rfl, lw_good_of (List.mem_of_getElem? (i := 67) rfl) rfl, by decide +kernel, by decide +kernel, by decide +kernel⟩, lw_good_of (List.mem_of_getElem? (i := 596) rfl) rfl, lw_good_of (List.mem_of_getElem? (i := 24) rfl) rfl⟩
set_option maxRecDepth 50000 in
theorem kc_X1_choose : jcalV yX1_choose cX1_choose 7 none 2 := ⟨⟨lw_good_of (List.mem_of_getElem? (i := 603) rfl) rfl, lw_good_of (List.mem_of_getElem? (i := 67) rfl) rfl, by decide +kernel, by decide +kernel, by decide +kernel⟩, lw_good_of (List.mem_of_getElem? (i := 601) rfl) rfl, lw_good_of (List.mem_of_getElem? (i := 602) rfl) rfl⟩
set_option maxRecDepth 50000 in
theorem kc_X1_binHas : jcalV yX1_binHas cX1_binHas 2 (some .int) 1 := ⟨⟨lw_good_of (List.mem_of_getElem? (i := 615) rfl) rfl, lw_good_of (List.mem_of_getElem? (i := 67) rfl) rfl, by decide +kernel, by decide +kernel, by decide +kernel⟩, lw_good_of (List.mem_of_getElem? (i := 613) rfl) rfl, lw_good_of (List.mem_of_getElem? (i := 614) rfl) rfl⟩
set_option maxRecDepth 50000 in
theorem kc_X1_needOf : jcalV yX1_needOf cX1_needOf 9 (some .int) 2 := ⟨⟨lw_good_of (List.mem_of_getElem? (i := 611) rfl) rfl, lw_good_of (List.mem_of_getElem? (i := 67) rfl) rfl, by decide +kernel, by decide +kernel, by decide +kernel⟩, lw_good_of (List.mem_of_getElem? (i := 609) rfl) rfl, lw_good_of (List.mem_of_getElem? (i := 610) rfl) rfl⟩
set_option maxRecDepth 50000 in
theorem kc_X1_proves : jcalV yX1_proves cX1_proves 3 (some .boolean) 2 := ⟨⟨lw_good_of (List.mem_of_getElem? (i := 648) rfl) rfl, lw_good_of (List.mem_of_getElem? (i := 67) rfl) rfl, by decide +kernel, by decide +kernel, by decide +kernel⟩, lw_good_of (List.mem_of_getElem? (i := 647) rfl) rfl, lw_good_of (List.mem_of_getElem? (i := 29) rfl) rfl⟩
set_option maxRecDepth 50000 in
theorem kc_X1_seekProof : jcalV yX1_seekProof cX1_seekProof 3 none 0 := ⟨⟨lw_good_of (List.mem_of_getElem? (i := 625) rfl) rfl, lw_good_of (List.mem_of_getElem? (i := 67) rfl) rfl, by decide +kernel, by decide +kernel, by decide +kernel⟩, lw_good_of (List.mem_of_getElem? (i := 623) rfl) rfl, lw_good_of (List.mem_of_getElem? (i := 624) rfl) rfl⟩
set_option maxRecDepth 50000 in
theorem kc_X1_seekOnLastAxis : jcalV yX1_seekOnLastAxis cX1_seekOnLastAxis 4 (some .boolean) 2 := ⟨⟨lw_good_of (List.mem_of_getElem? (i := 642) rfl) rfl, lw_good_of (List.mem_of_getElem? (i := 67) rfl) rfl, by decide +kernel, by decide +kernel, by decide +kernel⟩, lw_good_of (List.mem_of_getElem? (i := 641) rfl) rfl, lw_good_of (List.mem_of_getElem? (i := 28) rfl) rfl⟩
set_option maxRecDepth 50000 in
theorem kc_X1_isTried : jcalV yX1_isTried cX1_isTried 3 (some .boolean) 2 := ⟨⟨lw_good_of (List.mem_of_getElem? (i := 634) rfl) rfl, lw_good_of (List.mem_of_getElem? (i := 67) rfl) rfl, by decide +kernel, by decide +kernel, by decide +kernel⟩, lw_good_of (List.mem_of_getElem? (i := 633) rfl) rfl, lw_good_of (List.mem_of_getElem? (i := 26) rfl) rfl⟩
set_option maxRecDepth 50000 in
theorem kc_X1_leaveOutIdle : jcalV yX1_leaveOutIdle cX1_leaveOutIdle 5 none 1 := ⟨⟨lw_good_of (List.mem_of_getElem? (i := 630) rfl) rfl, lw_good_of (List.mem_of_getElem? (i := 67) rfl) rfl, by decide +kernel, by decide +kernel, by decide +kernel⟩, lw_good_of (List.mem_of_getElem? (i := 629) rfl) rfl, lw_good_of (List.mem_of_getElem? (i := 25) rfl) rfl⟩
set_option maxRecDepth 50000 in
theorem kc_X1_givesNoLess : jcalV yX1_givesNoLess cX1_givesNoLess 9 (some .boolean) 3 := ⟨⟨lw_good_of (List.mem_of_getElem? (i := 638) rfl) rfl, lw_good_of (List.mem_of_getElem? (i := 67) rfl) rfl, by decide +kernel, by decide +kernel, by decide +kernel⟩, lw_good_of (List.mem_of_getElem? (i := 637) rfl) rfl, lw_good_of (List.mem_of_getElem? (i := 27) rfl) rfl⟩
set_option maxRecDepth 50000 in
theorem kc_X1_keep : jcalV yX1_keep cX1_keep 5 none 4 := ⟨⟨lw_good_of (List.mem_of_getElem? (i := 657) rfl) rfl, lw_good_of (List.mem_of_getElem? (i := 67) rfl) rfl, by decide +kernel, by decide +kernel, by decide +kernel⟩, lw_good_of (List.mem_of_getElem? (i := 656) rfl) rfl, lw_good_of (List.mem_of_getElem? (i := 31) rfl) rfl⟩
set_option maxRecDepth 50000 in
theorem kc_X1_reason : jcalV yX1_reason cX1_reason 5 (some .int) 1 := ⟨⟨lw_good_of (List.mem_of_getElem? (i := 653) rfl) rfl, lw_good_of (List.mem_of_getElem? (i := 67) rfl) rfl, by decide +kernel, by decide +kernel, by decide +kernel⟩, lw_good_of (List.mem_of_getElem? (i := 652) rfl) rfl, lw_good_of (List.mem_of_getElem? (i := 30) rfl) rfl⟩
set_option maxRecDepth 50000 in
theorem kc_X2_holds : jcalV yX2_holds cX2_holds 2 (some .boolean) 1 := ⟨⟨lw_good_of (List.mem_of_getElem? (i := 467) rfl) rfl, lw_good_of (List.mem_of_getElem? (i := 65) rfl) rfl, by decide +kernel, by decide +kernel, by decide +kernel⟩, lw_good_of (List.mem_of_getElem? (i := 465) rfl) rfl, lw_good_of (List.mem_of_getElem? (i := 466) rfl) rfl⟩
set_option maxRecDepth 50000 in
theorem kc_X2_takeAway : jcalV yX2_takeAway cX2_takeAway 2 none 1 := ⟨⟨lw_good_of (List.mem_of_getElem? (i := 480) rfl) rfl, lw_good_of (List.mem_of_getElem? (i := 65) rfl) rfl, by decide +kernel, by decide +kernel, by decide +kernel⟩, lw_good_of (List.mem_of_getElem? (i := 478) rfl) rfl, lw_good_of (List.mem_of_getElem? (i := 479) rfl) rfl⟩
set_option maxRecDepth 50000 in
theorem kc_X2_takeAllAway : jcalV yX2_takeAllAway cX2_takeAllAway 1 none 0 := ⟨⟨lw_good_of (List.mem_of_getElem? (i := 294) rfl) rfl, lw_good_of (List.mem_of_getElem? (i := 65) rfl) rfl, by decide +kernel, by decide +kernel, by decide +kernel⟩, lw_good_of (List.mem_of_getElem? (i := 292) rfl) rfl, lw_good_of (List.mem_of_getElem? (i := 293) rfl) rfl⟩
set_option maxRecDepth 50000 in
theorem kc_X2_put : jcalV yX2_put cX2_put 8 none 5 := ⟨⟨lw_good_of (List.mem_of_getElem? (i := 445) rfl) rfl, lw_good_of (List.mem_of_getElem? (i := 65) rfl) rfl, by decide +kernel, by decide +kernel, by decide +kernel⟩, lw_good_of (List.mem_of_getElem? (i := 443) rfl) rfl, lw_good_of (List.mem_of_getElem? (i := 444) rfl) rfl⟩
set_option maxRecDepth 50000 in
theorem kc_X2_extentOf : jcalV yX2_extentOf cX2_extentOf 3 (some .int) 2 := ⟨⟨lw_good_of (List.mem_of_getElem? (i := 488) rfl) rfl, lw_good_of (List.mem_of_getElem? (i := 65) rfl) rfl, by decide +kernel, by decide +kernel, by decide +kernel⟩, lw_good_of (List.mem_of_getElem? (i := 486) rfl) rfl, lw_good_of (List.mem_of_getElem? (i := 487) rfl) rfl⟩
set_option maxRecDepth 50000 in
theorem kc_X2_overlapCount : jcalV yX2_overlapCount cX2_overlapCount 4 (some .int) 0 := ⟨⟨lw_good_of (List.mem_of_getElem? (i := 463) rfl) rfl, lw_good_of (List.mem_of_getElem? (i := 65) rfl) rfl, by decide +kernel, by decide +kernel, by decide +kernel⟩, lw_good_of (List.mem_of_getElem? (i := 461) rfl) rfl, lw_good_of (List.mem_of_getElem? (i := 462) rfl) rfl⟩
set_option maxRecDepth 50000 in
theorem kc_X2_firstGap : jcalV yX2_firstGap cX2_firstGap 4 (some .int) 2 := ⟨⟨lw_good_of (List.mem_of_getElem? (i := 471) rfl) rfl, lw_good_of (List.mem_of_getElem? (i := 65) rfl) rfl, by decide +kernel, by decide +kernel, by decide +kernel⟩, lw_good_of (List.mem_of_getElem? (i := 469) rfl) rfl, lw_good_of (List.mem_of_getElem? (i := 470) rfl) rfl⟩
set_option maxRecDepth 50000 in
theorem kc_X2_heldArea : jcalV yX2_heldArea cX2_heldArea 5 (some .int) 1 := ⟨⟨lw_good_of (List.mem_of_getElem? (i := 505) rfl) rfl, lw_good_of (List.mem_of_getElem? (i := 65) rfl) rfl, by decide +kernel, by decide +kernel, by decide +kernel⟩, lw_good_of (List.mem_of_getElem? (i := 503) rfl) rfl, lw_good_of (List.mem_of_getElem? (i := 504) rfl) rfl⟩
set_option maxRecDepth 50000 in
theorem kc_X2_commonLength : jcalV yX2_commonLength cX2_commonLength 6 (some .int) 3 := ⟨⟨lw_good_of (List.mem_of_getElem? (i := 510) rfl) rfl, lw_good_of (List.mem_of_getElem? (i := 65) rfl) rfl, by decide +kernel, by decide +kernel, by decide +kernel⟩, lw_good_of (List.mem_of_getElem? (i := 509) rfl) rfl, lw_good_of (List.mem_of_getElem? (i := 17) rfl) rfl⟩
set_option maxRecDepth 50000 in
theorem kc_X2_weightSum : jcalV yX2_weightSum cX2_weightSum 3 (some .int) 0 := ⟨⟨lw_good_of (List.mem_of_getElem? (i := 529) rfl) rfl, lw_good_of (List.mem_of_getElem? (i := 65) rfl) rfl, by decide +kernel, by decide +kernel, by decide +kernel⟩, lw_good_of (List.mem_of_getElem? (i := 527) rfl) rfl, lw_good_of (List.mem_of_getElem? (i := 528) rfl) rfl⟩
set_option maxRecDepth 50000 in
theorem kc_X2_doubledMoment : jcalV yX2_doubledMoment cX2_doubledMoment 5 (some .int) 1 := ⟨⟨lw_good_of (List.mem_of_getElem? (i := 525) rfl) rfl, lw_good_of (List.mem_of_getElem? (i := 65) rfl) rfl, by decide +kernel, by decide +kernel, by decide +kernel⟩, lw_good_of (List.mem_of_getElem? (i := 523) rfl) rfl, lw_good_of (List.mem_of_getElem? (i := 524) rfl) rfl⟩
set_option maxRecDepth 50000 in
theorem kc_X3_restart : jcalV yX3_restart cX3_restart 3 none 0 := ⟨⟨lw_good_of (List.mem_of_getElem? (i := 260) rfl) rfl, lw_good_of (List.mem_of_getElem? (i := 64) rfl) rfl, by decide +kernel, by decide +kernel, by decide +kernel⟩, lw_good_of (List.mem_of_getElem? (i := 258) rfl) rfl, lw_good_of (List.mem_of_getElem? (i := 259) rfl) rfl⟩
set_option maxRecDepth 50000 in
theorem kc_X3_orderBoxes : jcalV yX3_orderBoxes cX3_orderBoxes 3 none 0 := ⟨⟨lw_good_of (List.mem_of_getElem? (i := 264) rfl) rfl, lw_good_of (List.mem_of_getElem? (i := 64) rfl) rfl, by decide +kernel, by decide +kernel, by decide +kernel⟩, lw_good_of (List.mem_of_getElem? (i := 263) rfl) rfl, lw_good_of (List.mem_of_getElem? (i := 1) rfl) rfl⟩
set_option maxRecDepth 50000 in
theorem kc_X3_sumsOfOthers : jcalV yX3_sumsOfOthers cX3_sumsOfOthers 6 (some .int) 2 := ⟨⟨lw_good_of (List.mem_of_getElem? (i := 272) rfl) rfl, lw_good_of (List.mem_of_getElem? (i := 64) rfl) rfl, by decide +kernel, by decide +kernel, by decide +kernel⟩, lw_good_of (List.mem_of_getElem? (i := 271) rfl) rfl, lw_good_of (List.mem_of_getElem? (i := 2) rfl) rfl⟩
set_option maxRecDepth 50000 in
theorem kc_X3_withExtents : jcalV yX3_withExtents cX3_withExtents 6 (some .int) 3 := ⟨⟨lw_good_of (List.mem_of_getElem? (i := 276) rfl) rfl, lw_good_of (List.mem_of_getElem? (i := 64) rfl) rfl, by decide +kernel, by decide +kernel, by decide +kernel⟩, lw_good_of (List.mem_of_getElem? (i := 275) rfl) rfl, lw_good_of (List.mem_of_getElem? (i := 3) rfl) rfl⟩
set_option maxRecDepth 50000 in
theorem kc_X3_coordinateCount : jcalV yX3_coordinateCount cX3_coordinateCount 3 (some .int) 2 := ⟨⟨lw_good_of (List.mem_of_getElem? (i := 437) rfl) rfl, lw_good_of (List.mem_of_getElem? (i := 64) rfl) rfl, by decide +kernel, by decide +kernel, by decide +kernel⟩, lw_good_of (List.mem_of_getElem? (i := 435) rfl) rfl, lw_good_of (List.mem_of_getElem? (i := 436) rfl) rfl⟩
set_option maxRecDepth 50000 in
theorem kc_X3_wayCount : jcalV yX3_wayCount cX3_wayCount 4 (some .int) 1 := ⟨⟨lw_good_of (List.mem_of_getElem? (i := 433) rfl) rfl, lw_good_of (List.mem_of_getElem? (i := 64) rfl) rfl, by decide +kernel, by decide +kernel, by decide +kernel⟩, lw_good_of (List.mem_of_getElem? (i := 431) rfl) rfl, lw_good_of (List.mem_of_getElem? (i := 432) rfl) rfl⟩
set_option maxRecDepth 50000 in
theorem kc_X3_wayCoordinates : jcalV yX3_wayCoordinates cX3_wayCoordinates 5 (some .int) 3 := ⟨⟨lw_good_of (List.mem_of_getElem? (i := 410) rfl) rfl, lw_good_of (List.mem_of_getElem? (i := 64) rfl) rfl, by decide +kernel, by decide +kernel, by decide +kernel⟩, lw_good_of (List.mem_of_getElem? (i := 409) rfl) rfl, lw_good_of (List.mem_of_getElem? (i := 12) rfl) rfl⟩
set_option maxRecDepth 50000 in
theorem kc_X3_goOn : jcalV yX3_goOn cX3_goOn 3 (some .int) 1 := ⟨⟨lw_good_of (List.mem_of_getElem? (i := 353) rfl) rfl, lw_good_of (List.mem_of_getElem? (i := 64) rfl) rfl, by decide +kernel, by decide +kernel, by decide +kernel⟩, lw_good_of (List.mem_of_getElem? (i := 351) rfl) rfl, lw_good_of (List.mem_of_getElem? (i := 352) rfl) rfl⟩
set_option maxRecDepth 50000 in
theorem kc_X3_enter : jcalV yX3_enter cX3_enter 2 none 1 := ⟨⟨lw_good_of (List.mem_of_getElem? (i := 290) rfl) rfl, lw_good_of (List.mem_of_getElem? (i := 64) rfl) rfl, by decide +kernel, by decide +kernel, by decide +kernel⟩, lw_good_of (List.mem_of_getElem? (i := 289) rfl) rfl, lw_good_of (List.mem_of_getElem? (i := 4) rfl) rfl⟩
set_option maxRecDepth 50000 in
theorem kc_X3_goBack : jcalV yX3_goBack cX3_goBack 1 none 0 := ⟨⟨lw_good_of (List.mem_of_getElem? (i := 425) rfl) rfl, lw_good_of (List.mem_of_getElem? (i := 64) rfl) rfl, by decide +kernel, by decide +kernel, by decide +kernel⟩, lw_good_of (List.mem_of_getElem? (i := 424) rfl) rfl, lw_good_of (List.mem_of_getElem? (i := 15) rfl) rfl⟩
set_option maxRecDepth 50000 in
theorem kc_X3_nextRow : jcalV yX3_nextRow cX3_nextRow 1 (some .boolean) 0 := ⟨⟨lw_good_of (List.mem_of_getElem? (i := 384) rfl) rfl, lw_good_of (List.mem_of_getElem? (i := 64) rfl) rfl, by decide +kernel, by decide +kernel, by decide +kernel⟩, lw_good_of (List.mem_of_getElem? (i := 383) rfl) rfl, lw_good_of (List.mem_of_getElem? (i := 9) rfl) rfl⟩
set_option maxRecDepth 50000 in
theorem kc_X3_nextLayer : jcalV yX3_nextLayer cX3_nextLayer 1 none 0 := ⟨⟨lw_good_of (List.mem_of_getElem? (i := 414) rfl) rfl, lw_good_of (List.mem_of_getElem? (i := 64) rfl) rfl, by decide +kernel, by decide +kernel, by decide +kernel⟩, lw_good_of (List.mem_of_getElem? (i := 413) rfl) rfl, lw_good_of (List.mem_of_getElem? (i := 13) rfl) rfl⟩
set_option maxRecDepth 50000 in
theorem kc_X3_nextTurn : jcalV yX3_nextTurn cX3_nextTurn 3 none 0 := ⟨⟨lw_good_of (List.mem_of_getElem? (i := 388) rfl) rfl, lw_good_of (List.mem_of_getElem? (i := 64) rfl) rfl, by decide +kernel, by decide +kernel, by decide +kernel⟩, lw_good_of (List.mem_of_getElem? (i := 387) rfl) rfl, lw_good_of (List.mem_of_getElem? (i := 10) rfl) rfl⟩
set_option maxRecDepth 50000 in
theorem kc_X3_turnTo : jcalV yX3_turnTo cX3_turnTo 4 none 2 := ⟨⟨lw_good_of (List.mem_of_getElem? (i := 406) rfl) rfl, lw_good_of (List.mem_of_getElem? (i := 64) rfl) rfl, by decide +kernel, by decide +kernel, by decide +kernel⟩, lw_good_of (List.mem_of_getElem? (i := 405) rfl) rfl, lw_good_of (List.mem_of_getElem? (i := 11) rfl) rfl⟩
set_option maxRecDepth 50000 in
theorem kc_X3_setAxis : jcalV yX3_setAxis cX3_setAxis 4 none 2 := ⟨⟨lw_good_of (List.mem_of_getElem? (i := 380) rfl) rfl, lw_good_of (List.mem_of_getElem? (i := 64) rfl) rfl, by decide +kernel, by decide +kernel, by decide +kernel⟩, lw_good_of (List.mem_of_getElem? (i := 379) rfl) rfl, lw_good_of (List.mem_of_getElem? (i := 8) rfl) rfl⟩
set_option maxRecDepth 50000 in
theorem kc_X3_blockedInRow : jcalV yX3_blockedInRow cX3_blockedInRow 5 (some .int) 0 := ⟨⟨lw_good_of (List.mem_of_getElem? (i := 418) rfl) rfl, lw_good_of (List.mem_of_getElem? (i := 64) rfl) rfl, by decide +kernel, by decide +kernel, by decide +kernel⟩, lw_good_of (List.mem_of_getElem? (i := 417) rfl) rfl, lw_good_of (List.mem_of_getElem? (i := 14) rfl) rfl⟩
set_option maxRecDepth 50000 in
theorem kc_X3_lookAlongRow : jcalV yX3_lookAlongRow cX3_lookAlongRow 4 none 0 := ⟨⟨lw_good_of (List.mem_of_getElem? (i := 358) rfl) rfl, lw_good_of (List.mem_of_getElem? (i := 64) rfl) rfl, by decide +kernel, by decide +kernel, by decide +kernel⟩, lw_good_of (List.mem_of_getElem? (i := 357) rfl) rfl, lw_good_of (List.mem_of_getElem? (i := 5) rfl) rfl⟩
set_option maxRecDepth 50000 in
theorem kc_X3_lookAtBlocked : jcalV yX3_lookAtBlocked cX3_lookAtBlocked 2 none 0 := ⟨⟨lw_good_of (List.mem_of_getElem? (i := 368) rfl) rfl, lw_good_of (List.mem_of_getElem? (i := 64) rfl) rfl, by decide +kernel, by decide +kernel, by decide +kernel⟩, lw_good_of (List.mem_of_getElem? (i := 367) rfl) rfl, lw_good_of (List.mem_of_getElem? (i := 6) rfl) rfl⟩
set_option maxRecDepth 50000 in
theorem kc_X3_take : jcalV yX3_take cX3_take 2 none 1 := ⟨⟨lw_good_of (List.mem_of_getElem? (i := 376) rfl) rfl, lw_good_of (List.mem_of_getElem? (i := 64) rfl) rfl, by decide +kernel, by decide +kernel, by decide +kernel⟩, lw_good_of (List.mem_of_getElem? (i := 375) rfl) rfl, lw_good_of (List.mem_of_getElem? (i := 7) rfl) rfl⟩
set_option maxRecDepth 50000 in
theorem kc_X4_append : jcalV yX4_append cX4_append 4 none 3 := ⟨⟨lw_good_of (List.mem_of_getElem? (i := 329) rfl) rfl, lw_good_of (List.mem_of_getElem? (i := 63) rfl) rfl, by decide +kernel, by decide +kernel, by decide +kernel⟩, lw_good_of (List.mem_of_getElem? (i := 327) rfl) rfl, lw_good_of (List.mem_of_getElem? (i := 328) rfl) rfl⟩
set_option maxRecDepth 50000 in
theorem kc_X4_isBox : jcalV yX4_isBox cX4_isBox 2 (some .boolean) 1 := ⟨⟨lw_good_of (List.mem_of_getElem? (i := 337) rfl) rfl, lw_good_of (List.mem_of_getElem? (i := 63) rfl) rfl, by decide +kernel, by decide +kernel, by decide +kernel⟩, lw_good_of (List.mem_of_getElem? (i := 335) rfl) rfl, lw_good_of (List.mem_of_getElem? (i := 336) rfl) rfl⟩
set_option maxRecDepth 50000 in
theorem kc_X4_allBoxes : jcalV yX4_allBoxes cX4_allBoxes 1 (some .int) 0 := ⟨⟨lw_good_of (List.mem_of_getElem? (i := 607) rfl) rfl, lw_good_of (List.mem_of_getElem? (i := 63) rfl) rfl, by decide +kernel, by decide +kernel, by decide +kernel⟩, lw_good_of (List.mem_of_getElem? (i := 605) rfl) rfl, lw_good_of (List.mem_of_getElem? (i := 606) rfl) rfl⟩
set_option maxRecDepth 50000 in
theorem kc_X4_extent : jcalV yX4_extent cX4_extent 4 (some .int) 3 := ⟨⟨lw_good_of (List.mem_of_getElem? (i := 284) rfl) rfl, lw_good_of (List.mem_of_getElem? (i := 63) rfl) rfl, by decide +kernel, by decide +kernel, by decide +kernel⟩, lw_good_of (List.mem_of_getElem? (i := 282) rfl) rfl, lw_good_of (List.mem_of_getElem? (i := 283) rfl) rfl⟩
set_option maxRecDepth 50000 in
theorem kc_X4_volume : jcalV yX4_volume cX4_volume 2 (some .int) 1 := ⟨⟨lw_good_of (List.mem_of_getElem? (i := 268) rfl) rfl, lw_good_of (List.mem_of_getElem? (i := 63) rfl) rfl, by decide +kernel, by decide +kernel, by decide +kernel⟩, lw_good_of (List.mem_of_getElem? (i := 266) rfl) rfl, lw_good_of (List.mem_of_getElem? (i := 267) rfl) rfl⟩
set_option maxRecDepth 50000 in
theorem kc_X4_hasTurn : jcalV yX4_hasTurn cX4_hasTurn 3 (some .boolean) 2 := ⟨⟨lw_good_of (List.mem_of_getElem? (i := 280) rfl) rfl, lw_good_of (List.mem_of_getElem? (i := 63) rfl) rfl, by decide +kernel, by decide +kernel, by decide +kernel⟩, lw_good_of (List.mem_of_getElem? (i := 278) rfl) rfl, lw_good_of (List.mem_of_getElem? (i := 279) rfl) rfl⟩
set_option maxRecDepth 50000 in
theorem kc_X4_sameExtents : jcalV yX4_sameExtents cX4_sameExtents 4 (some .boolean) 3 := ⟨⟨lw_good_of (List.mem_of_getElem? (i := 402) rfl) rfl, lw_good_of (List.mem_of_getElem? (i := 63) rfl) rfl, by decide +kernel, by decide +kernel, by decide +kernel⟩, lw_good_of (List.mem_of_getElem? (i := 400) rfl) rfl, lw_good_of (List.mem_of_getElem? (i := 401) rfl) rfl⟩
set_option maxRecDepth 50000 in
theorem kc_X4_isShort : jcalV yX4_isShort cX4_isShort 3 (some .boolean) 2 := ⟨⟨lw_good_of (List.mem_of_getElem? (i := 397) rfl) rfl, lw_good_of (List.mem_of_getElem? (i := 63) rfl) rfl, by decide +kernel, by decide +kernel, by decide +kernel⟩, lw_good_of (List.mem_of_getElem? (i := 395) rfl) rfl, lw_good_of (List.mem_of_getElem? (i := 396) rfl) rfl⟩
set_option maxRecDepth 50000 in
theorem kc_X4_counts : jcalV yX4_counts cX4_counts 4 (some .boolean) 2 := ⟨⟨lw_good_of (List.mem_of_getElem? (i := 392) rfl) rfl, lw_good_of (List.mem_of_getElem? (i := 63) rfl) rfl, by decide +kernel, by decide +kernel, by decide +kernel⟩, lw_good_of (List.mem_of_getElem? (i := 390) rfl) rfl, lw_good_of (List.mem_of_getElem? (i := 391) rfl) rfl⟩
set_option maxRecDepth 50000 in
theorem kc_X4_isPlace : jcalV yX4_isPlace cX4_isPlace 6 (some .boolean) 5 := ⟨⟨lw_good_of (List.mem_of_getElem? (i := 454) rfl) rfl, lw_good_of (List.mem_of_getElem? (i := 63) rfl) rfl, by decide +kernel, by decide +kernel, by decide +kernel⟩, lw_good_of (List.mem_of_getElem? (i := 452) rfl) rfl, lw_good_of (List.mem_of_getElem? (i := 453) rfl) rfl⟩
set_option maxRecDepth 50000 in
theorem kc_X4_liesWithin : jcalV yX4_liesWithin cX4_liesWithin 4 (some .boolean) 3 := ⟨⟨lw_good_of (List.mem_of_getElem? (i := 459) rfl) rfl, lw_good_of (List.mem_of_getElem? (i := 63) rfl) rfl, by decide +kernel, by decide +kernel, by decide +kernel⟩, lw_good_of (List.mem_of_getElem? (i := 458) rfl) rfl, lw_good_of (List.mem_of_getElem? (i := 16) rfl) rfl⟩
set_option maxRecDepth 50000 in
theorem kc_X4_hasRoomBeside : jcalV yX4_hasRoomBeside cX4_hasRoomBeside 11 (some .boolean) 6 := ⟨⟨lw_good_of (List.mem_of_getElem? (i := 665) rfl) rfl, lw_good_of (List.mem_of_getElem? (i := 63) rfl) rfl, by decide +kernel, by decide +kernel, by decide +kernel⟩, lw_good_of (List.mem_of_getElem? (i := 663) rfl) rfl, lw_good_of (List.mem_of_getElem? (i := 664) rfl) rfl⟩
set_option maxRecDepth 50000 in
theorem kc_X5_bin : jcalV yX5_bin cX5_bin 4 (some .int) 3 := ⟨⟨lw_good_of (List.mem_of_getElem? (i := 318) rfl) rfl, lw_good_of (List.mem_of_getElem? (i := 62) rfl) rfl, by decide +kernel, by decide +kernel, by decide +kernel⟩, lw_good_of (List.mem_of_getElem? (i := 316) rfl) rfl, lw_good_of (List.mem_of_getElem? (i := 317) rfl) rfl⟩
set_option maxRecDepth 50000 in
theorem kc_X5_box : jcalV yX5_box cX5_box 5 (some .int) 3 := ⟨⟨lw_good_of (List.mem_of_getElem? (i := 325) rfl) rfl, lw_good_of (List.mem_of_getElem? (i := 62) rfl) rfl, by decide +kernel, by decide +kernel, by decide +kernel⟩, lw_good_of (List.mem_of_getElem? (i := 323) rfl) rfl, lw_good_of (List.mem_of_getElem? (i := 324) rfl) rfl⟩
set_option maxRecDepth 50000 in
theorem kc_X5_turns : jcalV yX5_turns cX5_turns 4 (some .int) 2 := ⟨⟨lw_good_of (List.mem_of_getElem? (i := 333) rfl) rfl, lw_good_of (List.mem_of_getElem? (i := 62) rfl) rfl, by decide +kernel, by decide +kernel, by decide +kernel⟩, lw_good_of (List.mem_of_getElem? (i := 331) rfl) rfl, lw_good_of (List.mem_of_getElem? (i := 332) rfl) rfl⟩
set_option maxRecDepth 50000 in
theorem kc_X5_weight : jcalV yX5_weight cX5_weight 4 (some .int) 2 := ⟨⟨lw_good_of (List.mem_of_getElem? (i := 341) rfl) rfl, lw_good_of (List.mem_of_getElem? (i := 62) rfl) rfl, by decide +kernel, by decide +kernel, by decide +kernel⟩, lw_good_of (List.mem_of_getElem? (i := 339) rfl) rfl, lw_good_of (List.mem_of_getElem? (i := 340) rfl) rfl⟩
set_option maxRecDepth 50000 in
theorem kc_X5_clear : jcalV yX5_clear cX5_clear 2 (some .int) 0 := ⟨⟨lw_good_of (List.mem_of_getElem? (i := 345) rfl) rfl, lw_good_of (List.mem_of_getElem? (i := 62) rfl) rfl, by decide +kernel, by decide +kernel, by decide +kernel⟩, lw_good_of (List.mem_of_getElem? (i := 343) rfl) rfl, lw_good_of (List.mem_of_getElem? (i := 344) rfl) rfl⟩
set_option maxRecDepth 50000 in
theorem kc_X5_run : jcalV yX5_run cX5_run 2 (some .int) 1 := ⟨⟨lw_good_of (List.mem_of_getElem? (i := 349) rfl) rfl, lw_good_of (List.mem_of_getElem? (i := 62) rfl) rfl, by decide +kernel, by decide +kernel, by decide +kernel⟩, lw_good_of (List.mem_of_getElem? (i := 347) rfl) rfl, lw_good_of (List.mem_of_getElem? (i := 348) rfl) rfl⟩
set_option maxRecDepth 50000 in
theorem kc_X5_told : jcalV yX5_told cX5_told 3 (some .int) 2 := ⟨⟨lw_good_of (List.mem_of_getElem? (i := 429) rfl) rfl, lw_good_of (List.mem_of_getElem? (i := 62) rfl) rfl, by decide +kernel, by decide +kernel, by decide +kernel⟩, lw_good_of (List.mem_of_getElem? (i := 427) rfl) rfl, lw_good_of (List.mem_of_getElem? (i := 428) rfl) rfl⟩
set_option maxRecDepth 50000 in
theorem kc_X5_plan : jcalV yX5_plan cX5_plan 3 (some .int) 0 := ⟨⟨lw_good_of (List.mem_of_getElem? (i := 441) rfl) rfl, lw_good_of (List.mem_of_getElem? (i := 62) rfl) rfl, by decide +kernel, by decide +kernel, by decide +kernel⟩, lw_good_of (List.mem_of_getElem? (i := 439) rfl) rfl, lw_good_of (List.mem_of_getElem? (i := 440) rfl) rfl⟩
set_option maxRecDepth 50000 in
theorem kc_X5_lay : jcalV yX5_lay cX5_lay 6 (some .int) 5 := ⟨⟨lw_good_of (List.mem_of_getElem? (i := 450) rfl) rfl, lw_good_of (List.mem_of_getElem? (i := 62) rfl) rfl, by decide +kernel, by decide +kernel, by decide +kernel⟩, lw_good_of (List.mem_of_getElem? (i := 448) rfl) rfl, lw_good_of (List.mem_of_getElem? (i := 449) rfl) rfl⟩
set_option maxRecDepth 50000 in
theorem kc_X5_lift : jcalV yX5_lift cX5_lift 2 (some .int) 1 := ⟨⟨lw_good_of (List.mem_of_getElem? (i := 475) rfl) rfl, lw_good_of (List.mem_of_getElem? (i := 62) rfl) rfl, by decide +kernel, by decide +kernel, by decide +kernel⟩, lw_good_of (List.mem_of_getElem? (i := 473) rfl) rfl, lw_good_of (List.mem_of_getElem? (i := 474) rfl) rfl⟩
set_option maxRecDepth 50000 in
theorem kc_X5_place : jcalV yX5_place cX5_place 3 (some .int) 2 := ⟨⟨lw_good_of (List.mem_of_getElem? (i := 484) rfl) rfl, lw_good_of (List.mem_of_getElem? (i := 62) rfl) rfl, by decide +kernel, by decide +kernel, by decide +kernel⟩, lw_good_of (List.mem_of_getElem? (i := 482) rfl) rfl, lw_good_of (List.mem_of_getElem? (i := 483) rfl) rfl⟩
set_option maxRecDepth 50000 in
theorem kc_X5_overlaps : jcalV yX5_overlaps cX5_overlaps 1 (some .int) 0 := ⟨⟨lw_good_of (List.mem_of_getElem? (i := 492) rfl) rfl, lw_good_of (List.mem_of_getElem? (i := 62) rfl) rfl, by decide +kernel, by decide +kernel, by decide +kernel⟩, lw_good_of (List.mem_of_getElem? (i := 490) rfl) rfl, lw_good_of (List.mem_of_getElem? (i := 491) rfl) rfl⟩
set_option maxRecDepth 50000 in
theorem kc_X5_relative : jcalV yX5_relative cX5_relative 3 (some .int) 2 := ⟨⟨lw_good_of (List.mem_of_getElem? (i := 496) rfl) rfl, lw_good_of (List.mem_of_getElem? (i := 62) rfl) rfl, by decide +kernel, by decide +kernel, by decide +kernel⟩, lw_good_of (List.mem_of_getElem? (i := 494) rfl) rfl, lw_good_of (List.mem_of_getElem? (i := 495) rfl) rfl⟩
set_option maxRecDepth 50000 in
theorem kc_X5_support : jcalV yX5_support cX5_support 2 (some .int) 1 := ⟨⟨lw_good_of (List.mem_of_getElem? (i := 501) rfl) rfl, lw_good_of (List.mem_of_getElem? (i := 62) rfl) rfl, by decide +kernel, by decide +kernel, by decide +kernel⟩, lw_good_of (List.mem_of_getElem? (i := 499) rfl) rfl, lw_good_of (List.mem_of_getElem? (i := 500) rfl) rfl⟩
set_option maxRecDepth 50000 in
theorem kc_X5_centre : jcalV yX5_centre cX5_centre 6 (some .int) 2 := ⟨⟨lw_good_of (List.mem_of_getElem? (i := 518) rfl) rfl, lw_good_of (List.mem_of_getElem? (i := 62) rfl) rfl, by decide +kernel, by decide +kernel, by decide +kernel⟩, lw_good_of (List.mem_of_getElem? (i := 516) rfl) rfl, lw_good_of (List.mem_of_getElem? (i := 517) rfl) rfl⟩
set_option maxRecDepth 50000 in
theorem kc_X5_tree : jcalV yX5_tree cX5_tree 1 (some .int) 0 := ⟨⟨lw_good_of (List.mem_of_getElem? (i := 536) rfl) rfl, lw_good_of (List.mem_of_getElem? (i := 62) rfl) rfl, by decide +kernel, by decide +kernel, by decide +kernel⟩, lw_good_of (List.mem_of_getElem? (i := 534) rfl) rfl, lw_good_of (List.mem_of_getElem? (i := 535) rfl) rfl⟩
set_option maxRecDepth 50000 in
theorem kc_X5_node : jcalV yX5_node cX5_node 3 (some .int) 2 := ⟨⟨lw_good_of (List.mem_of_getElem? (i := 564) rfl) rfl, lw_good_of (List.mem_of_getElem? (i := 62) rfl) rfl, by decide +kernel, by decide +kernel, by decide +kernel⟩, lw_good_of (List.mem_of_getElem? (i := 562) rfl) rfl, lw_good_of (List.mem_of_getElem? (i := 563) rfl) rfl⟩
set_option maxRecDepth 50000 in
theorem kc_X5_dual : jcalV yX5_dual cX5_dual 4 (some .int) 3 := ⟨⟨lw_good_of (List.mem_of_getElem? (i := 568) rfl) rfl, lw_good_of (List.mem_of_getElem? (i := 62) rfl) rfl, by decide +kernel, by decide +kernel, by decide +kernel⟩, lw_good_of (List.mem_of_getElem? (i := 566) rfl) rfl, lw_good_of (List.mem_of_getElem? (i := 567) rfl) rfl⟩
set_option maxRecDepth 50000 in
theorem kc_X5_need : jcalV yX5_need cX5_need 5 (some .long) 4 := ⟨⟨lw_good_of (List.mem_of_getElem? (i := 583) rfl) rfl, lw_good_of (List.mem_of_getElem? (i := 62) rfl) rfl, by decide +kernel, by decide +kernel, by decide +kernel⟩, lw_good_of (List.mem_of_getElem? (i := 581) rfl) rfl, lw_good_of (List.mem_of_getElem? (i := 582) rfl) rfl⟩
set_option maxRecDepth 50000 in
theorem kc_X5_proof : jcalV yX5_proof cX5_proof 2 (some .int) 1 := ⟨⟨lw_good_of (List.mem_of_getElem? (i := 621) rfl) rfl, lw_good_of (List.mem_of_getElem? (i := 62) rfl) rfl, by decide +kernel, by decide +kernel, by decide +kernel⟩, lw_good_of (List.mem_of_getElem? (i := 619) rfl) rfl, lw_good_of (List.mem_of_getElem? (i := 620) rfl) rfl⟩
set_option maxRecDepth 50000 in
theorem kc_X5_none : jcalV yX5_none cX5_none 7 (some .int) 5 := ⟨⟨lw_good_of (List.mem_of_getElem? (i := 661) rfl) rfl, lw_good_of (List.mem_of_getElem? (i := 62) rfl) rfl, by decide +kernel, by decide +kernel, by decide +kernel⟩, lw_good_of (List.mem_of_getElem? (i := 659) rfl) rfl, lw_good_of (List.mem_of_getElem? (i := 660) rfl) rfl⟩
set_option maxRecDepth 50000 in
theorem kc_X5_beginAnew : jcalV yX5_beginAnew cX5_beginAnew 1 none 0 := ⟨⟨lw_good_of (List.mem_of_getElem? (i := 256) rfl) rfl, lw_good_of (List.mem_of_getElem? (i := 62) rfl) rfl, by decide +kernel, by decide +kernel, by decide +kernel⟩, lw_good_of (List.mem_of_getElem? (i := 255) rfl) rfl, lw_good_of (List.mem_of_getElem? (i := 0) rfl) rfl⟩
set_option maxRecDepth 50000 in
theorem kc_X5_isLength : jcalS yX5_isLength cX5_isLength 1 (some .boolean) 1 := ⟨⟨lw_good_of (List.mem_of_getElem? (i := 321) rfl) rfl, lw_good_of (List.mem_of_getElem? (i := 62) rfl) rfl, by decide +kernel, by decide +kernel, by decide +kernel⟩, lw_good_of (List.mem_of_getElem? (i := 320) rfl) rfl⟩
set_option maxRecDepth 50000 in
theorem kc_X5_isAxis : jcalS yX5_isAxis cX5_isAxis 1 (some .boolean) 1 := ⟨⟨lw_good_of (List.mem_of_getElem? (i := 521) rfl) rfl, lw_good_of (List.mem_of_getElem? (i := 62) rfl) rfl, by decide +kernel, by decide +kernel, by decide +kernel⟩, lw_good_of (List.mem_of_getElem? (i := 520) rfl) rfl⟩
set_option maxRecDepth 50000 in
theorem kc_X5_lowest : jcalS yX5_lowest cX5_lowest 1 (some .int) 1 := ⟨⟨lw_good_of (List.mem_of_getElem? (i := 371) rfl) rfl, lw_good_of (List.mem_of_getElem? (i := 62) rfl) rfl, by decide +kernel, by decide +kernel, by decide +kernel⟩, lw_good_of (List.mem_of_getElem? (i := 370) rfl) rfl⟩
set_option maxRecDepth 50000 in
theorem kc_X5_commonDivisor : jcalS yX5_commonDivisor cX5_commonDivisor 6 (some .int) 2 := ⟨⟨lw_good_of (List.mem_of_getElem? (i := 532) rfl) rfl, lw_good_of (List.mem_of_getElem? (i := 62) rfl) rfl, by decide +kernel, by decide +kernel, by decide +kernel⟩, lw_good_of (List.mem_of_getElem? (i := 531) rfl) rfl⟩
set_option maxRecDepth 50000 in
theorem kc_X6_sideOf : jcalS yX6_sideOf cX6_sideOf 3 (some .int) 2 := ⟨⟨lw_good_of (List.mem_of_getElem? (i := 696) rfl) rfl, lw_good_of (List.mem_of_getElem? (i := 68) rfl) rfl, by decide +kernel, by decide +kernel, by decide +kernel⟩, lw_good_of (List.mem_of_getElem? (i := 695) rfl) rfl⟩
set_option maxRecDepth 50000 in
theorem kc_X6_extent : jcalV yX6_extent cX6_extent 4 (some .int) 3 := ⟨⟨lw_good_of (List.mem_of_getElem? (i := 693) rfl) rfl, lw_good_of (List.mem_of_getElem? (i := 68) rfl) rfl, by decide +kernel, by decide +kernel, by decide +kernel⟩, lw_good_of (List.mem_of_getElem? (i := 692) rfl) rfl, lw_good_of (List.mem_of_getElem? (i := 36) rfl) rfl⟩
set_option maxRecDepth 50000 in
theorem kc_X6_has : jcalV yX6_has cX6_has 3 (some .boolean) 2 := ⟨⟨lw_good_of (List.mem_of_getElem? (i := 689) rfl) rfl, lw_good_of (List.mem_of_getElem? (i := 68) rfl) rfl, by decide +kernel, by decide +kernel, by decide +kernel⟩, lw_good_of (List.mem_of_getElem? (i := 688) rfl) rfl, lw_good_of (List.mem_of_getElem? (i := 35) rfl) rfl⟩
set_option maxRecDepth 50000 in
theorem kc_X6_anew : jcalV yX6_anew cX6_anew 4 none 0 := ⟨⟨lw_good_of (List.mem_of_getElem? (i := 677) rfl) rfl, lw_good_of (List.mem_of_getElem? (i := 68) rfl) rfl, by decide +kernel, by decide +kernel, by decide +kernel⟩, lw_good_of (List.mem_of_getElem? (i := 676) rfl) rfl, lw_good_of (List.mem_of_getElem? (i := 32) rfl) rfl⟩
set_option maxRecDepth 50000 in
theorem kc_X6_volume : jcalV yX6_volume cX6_volume 2 (some .int) 1 := ⟨⟨lw_good_of (List.mem_of_getElem? (i := 681) rfl) rfl, lw_good_of (List.mem_of_getElem? (i := 68) rfl) rfl, by decide +kernel, by decide +kernel, by decide +kernel⟩, lw_good_of (List.mem_of_getElem? (i := 680) rfl) rfl, lw_good_of (List.mem_of_getElem? (i := 33) rfl) rfl⟩
set_option maxRecDepth 50000 in
theorem kc_X6_isSum : jcalV yX6_isSum cX6_isSum 4 (some .boolean) 3 := ⟨⟨lw_good_of (List.mem_of_getElem? (i := 704) rfl) rfl, lw_good_of (List.mem_of_getElem? (i := 68) rfl) rfl, by decide +kernel, by decide +kernel, by decide +kernel⟩, lw_good_of (List.mem_of_getElem? (i := 703) rfl) rfl, lw_good_of (List.mem_of_getElem? (i := 38) rfl) rfl⟩
set_option maxRecDepth 50000 in
theorem kc_X6_sum : jcalV yX6_sum cX6_sum 9 none 2 := ⟨⟨lw_good_of (List.mem_of_getElem? (i := 685) rfl) rfl, lw_good_of (List.mem_of_getElem? (i := 68) rfl) rfl, by decide +kernel, by decide +kernel, by decide +kernel⟩, lw_good_of (List.mem_of_getElem? (i := 684) rfl) rfl, lw_good_of (List.mem_of_getElem? (i := 34) rfl) rfl⟩
set_option maxRecDepth 50000 in
theorem kc_X6_isFirst : jcalV yX6_isFirst cX6_isFirst 5 (some .boolean) 2 := ⟨⟨lw_good_of (List.mem_of_getElem? (i := 708) rfl) rfl, lw_good_of (List.mem_of_getElem? (i := 68) rfl) rfl, by decide +kernel, by decide +kernel, by decide +kernel⟩, lw_good_of (List.mem_of_getElem? (i := 707) rfl) rfl, lw_good_of (List.mem_of_getElem? (i := 39) rfl) rfl⟩
set_option maxRecDepth 50000 in
theorem kc_X6_many : jcalV yX6_many cX6_many 4 (some .int) 3 := ⟨⟨lw_good_of (List.mem_of_getElem? (i := 712) rfl) rfl, lw_good_of (List.mem_of_getElem? (i := 68) rfl) rfl, by decide +kernel, by decide +kernel, by decide +kernel⟩, lw_good_of (List.mem_of_getElem? (i := 711) rfl) rfl, lw_good_of (List.mem_of_getElem? (i := 40) rfl) rfl⟩
set_option maxRecDepth 50000 in
theorem kc_X6_waysOf : jcalV yX6_waysOf cX6_waysOf 3 (some .int) 2 := ⟨⟨lw_good_of (List.mem_of_getElem? (i := 807) rfl) rfl, lw_good_of (List.mem_of_getElem? (i := 68) rfl) rfl, by decide +kernel, by decide +kernel, by decide +kernel⟩, lw_good_of (List.mem_of_getElem? (i := 806) rfl) rfl, lw_good_of (List.mem_of_getElem? (i := 42) rfl) rfl⟩
set_option maxRecDepth 50000 in
theorem kc_X6_counted : jcalV yX6_counted cX6_counted 6 (some .int) 3 := ⟨⟨lw_good_of (List.mem_of_getElem? (i := 700) rfl) rfl, lw_good_of (List.mem_of_getElem? (i := 68) rfl) rfl, by decide +kernel, by decide +kernel, by decide +kernel⟩, lw_good_of (List.mem_of_getElem? (i := 699) rfl) rfl, lw_good_of (List.mem_of_getElem? (i := 37) rfl) rfl⟩
set_option maxRecDepth 50000 in
theorem kc_X6_ways : jcalV yX6_ways cX6_ways 4 (some .int) 1 := ⟨⟨lw_good_of (List.mem_of_getElem? (i := 803) rfl) rfl, lw_good_of (List.mem_of_getElem? (i := 68) rfl) rfl, by decide +kernel, by decide +kernel, by decide +kernel⟩, lw_good_of (List.mem_of_getElem? (i := 802) rfl) rfl, lw_good_of (List.mem_of_getElem? (i := 41) rfl) rfl⟩
set_option maxRecDepth 50000 in
theorem kc_X6_coordinate : jcalV yX6_coordinate cX6_coordinate 6 (some .int) 3 := ⟨⟨lw_good_of (List.mem_of_getElem? (i := 815) rfl) rfl, lw_good_of (List.mem_of_getElem? (i := 68) rfl) rfl, by decide +kernel, by decide +kernel, by decide +kernel⟩, lw_good_of (List.mem_of_getElem? (i := 814) rfl) rfl, lw_good_of (List.mem_of_getElem? (i := 44) rfl) rfl⟩
set_option maxRecDepth 50000 in
theorem kc_X6_goes : jcalV yX6_goes cX6_goes 7 none 2 := ⟨⟨lw_good_of (List.mem_of_getElem? (i := 811) rfl) rfl, lw_good_of (List.mem_of_getElem? (i := 68) rfl) rfl, by decide +kernel, by decide +kernel, by decide +kernel⟩, lw_good_of (List.mem_of_getElem? (i := 810) rfl) rfl, lw_good_of (List.mem_of_getElem? (i := 43) rfl) rfl⟩
set_option maxRecDepth 50000 in
theorem kc_X6_isApart : jcalV yX6_isApart cX6_isApart 5 (some .boolean) 4 := ⟨⟨lw_good_of (List.mem_of_getElem? (i := 823) rfl) rfl, lw_good_of (List.mem_of_getElem? (i := 68) rfl) rfl, by decide +kernel, by decide +kernel, by decide +kernel⟩, lw_good_of (List.mem_of_getElem? (i := 822) rfl) rfl, lw_good_of (List.mem_of_getElem? (i := 46) rfl) rfl⟩
set_option maxRecDepth 50000 in
theorem kc_X6_isPlanned : jcalV yX6_isPlanned cX6_isPlanned 6 (some .boolean) 1 := ⟨⟨lw_good_of (List.mem_of_getElem? (i := 819) rfl) rfl, lw_good_of (List.mem_of_getElem? (i := 68) rfl) rfl, by decide +kernel, by decide +kernel, by decide +kernel⟩, lw_good_of (List.mem_of_getElem? (i := 818) rfl) rfl, lw_good_of (List.mem_of_getElem? (i := 45) rfl) rfl⟩
set_option maxRecDepth 50000 in
theorem kc_X6_run : jcalV yX6_run cX6_run 4 (some .int) 1 := ⟨⟨lw_good_of (List.mem_of_getElem? (i := 799) rfl) rfl, lw_good_of (List.mem_of_getElem? (i := 68) rfl) rfl, by decide +kernel, by decide +kernel, by decide +kernel⟩, lw_good_of (List.mem_of_getElem? (i := 797) rfl) rfl, lw_good_of (List.mem_of_getElem? (i := 798) rfl) rfl⟩
set_option maxRecDepth 50000 in
theorem kc_X6_bin : jcalV yX6_bin cX6_bin 4 (some .int) 3 := ⟨⟨lw_good_of (List.mem_of_getElem? (i := 827) rfl) rfl, lw_good_of (List.mem_of_getElem? (i := 68) rfl) rfl, by decide +kernel, by decide +kernel, by decide +kernel⟩, lw_good_of (List.mem_of_getElem? (i := 825) rfl) rfl, lw_good_of (List.mem_of_getElem? (i := 826) rfl) rfl⟩
set_option maxRecDepth 50000 in
theorem kc_X6_isSide : jcalS yX6_isSide cX6_isSide 1 (some .boolean) 1 := ⟨⟨lw_good_of (List.mem_of_getElem? (i := 830) rfl) rfl, lw_good_of (List.mem_of_getElem? (i := 68) rfl) rfl, by decide +kernel, by decide +kernel, by decide +kernel⟩, lw_good_of (List.mem_of_getElem? (i := 829) rfl) rfl⟩
set_option maxRecDepth 50000 in
theorem kc_X6_box : jcalV yX6_box cX6_box 4 (some .int) 3 := ⟨⟨lw_good_of (List.mem_of_getElem? (i := 834) rfl) rfl, lw_good_of (List.mem_of_getElem? (i := 68) rfl) rfl, by decide +kernel, by decide +kernel, by decide +kernel⟩, lw_good_of (List.mem_of_getElem? (i := 832) rfl) rfl, lw_good_of (List.mem_of_getElem? (i := 833) rfl) rfl⟩
set_option maxRecDepth 50000 in
theorem kc_X6_isBox : jcalV yX6_isBox cX6_isBox 2 (some .boolean) 1 := ⟨⟨lw_good_of (List.mem_of_getElem? (i := 842) rfl) rfl, lw_good_of (List.mem_of_getElem? (i := 68) rfl) rfl, by decide +kernel, by decide +kernel, by decide +kernel⟩, lw_good_of (List.mem_of_getElem? (i := 841) rfl) rfl, lw_good_of (List.mem_of_getElem? (i := 47) rfl) rfl⟩
set_option maxRecDepth 50000 in
theorem kc_X6_turns : jcalV yX6_turns cX6_turns 4 (some .int) 2 := ⟨⟨lw_good_of (List.mem_of_getElem? (i := 838) rfl) rfl, lw_good_of (List.mem_of_getElem? (i := 68) rfl) rfl, by decide +kernel, by decide +kernel, by decide +kernel⟩, lw_good_of (List.mem_of_getElem? (i := 836) rfl) rfl, lw_good_of (List.mem_of_getElem? (i := 837) rfl) rfl⟩
set_option maxRecDepth 50000 in
theorem kc_X6_weight : jcalV yX6_weight cX6_weight 4 (some .int) 2 := ⟨⟨lw_good_of (List.mem_of_getElem? (i := 846) rfl) rfl, lw_good_of (List.mem_of_getElem? (i := 68) rfl) rfl, by decide +kernel, by decide +kernel, by decide +kernel⟩, lw_good_of (List.mem_of_getElem? (i := 844) rfl) rfl, lw_good_of (List.mem_of_getElem? (i := 845) rfl) rfl⟩
set_option maxRecDepth 50000 in
theorem kc_X6_clear : jcalV yX6_clear cX6_clear 2 (some .int) 0 := ⟨⟨lw_good_of (List.mem_of_getElem? (i := 850) rfl) rfl, lw_good_of (List.mem_of_getElem? (i := 68) rfl) rfl, by decide +kernel, by decide +kernel, by decide +kernel⟩, lw_good_of (List.mem_of_getElem? (i := 848) rfl) rfl, lw_good_of (List.mem_of_getElem? (i := 849) rfl) rfl⟩
set_option maxRecDepth 50000 in
theorem kc_X6_told : jcalV yX6_told cX6_told 5 (some .int) 2 := ⟨⟨lw_good_of (List.mem_of_getElem? (i := 854) rfl) rfl, lw_good_of (List.mem_of_getElem? (i := 68) rfl) rfl, by decide +kernel, by decide +kernel, by decide +kernel⟩, lw_good_of (List.mem_of_getElem? (i := 852) rfl) rfl, lw_good_of (List.mem_of_getElem? (i := 853) rfl) rfl⟩
set_option maxRecDepth 50000 in
theorem kc_X6_plan : jcalV yX6_plan cX6_plan 3 (some .int) 0 := ⟨⟨lw_good_of (List.mem_of_getElem? (i := 858) rfl) rfl, lw_good_of (List.mem_of_getElem? (i := 68) rfl) rfl, by decide +kernel, by decide +kernel, by decide +kernel⟩, lw_good_of (List.mem_of_getElem? (i := 856) rfl) rfl, lw_good_of (List.mem_of_getElem? (i := 857) rfl) rfl⟩
set_option maxRecDepth 50000 in
theorem kc_X6_isPlace : jcalV yX6_isPlace cX6_isPlace 6 (some .boolean) 5 := ⟨⟨lw_good_of (List.mem_of_getElem? (i := 866) rfl) rfl, lw_good_of (List.mem_of_getElem? (i := 68) rfl) rfl, by decide +kernel, by decide +kernel, by decide +kernel⟩, lw_good_of (List.mem_of_getElem? (i := 865) rfl) rfl, lw_good_of (List.mem_of_getElem? (i := 48) rfl) rfl⟩
set_option maxRecDepth 50000 in
theorem kc_X6_lay : jcalV yX6_lay cX6_lay 6 (some .int) 5 := ⟨⟨lw_good_of (List.mem_of_getElem? (i := 862) rfl) rfl, lw_good_of (List.mem_of_getElem? (i := 68) rfl) rfl, by decide +kernel, by decide +kernel, by decide +kernel⟩, lw_good_of (List.mem_of_getElem? (i := 860) rfl) rfl, lw_good_of (List.mem_of_getElem? (i := 861) rfl) rfl⟩
set_option maxRecDepth 50000 in
theorem kc_X6_lift : jcalV yX6_lift cX6_lift 2 (some .int) 1 := ⟨⟨lw_good_of (List.mem_of_getElem? (i := 886) rfl) rfl, lw_good_of (List.mem_of_getElem? (i := 68) rfl) rfl, by decide +kernel, by decide +kernel, by decide +kernel⟩, lw_good_of (List.mem_of_getElem? (i := 884) rfl) rfl, lw_good_of (List.mem_of_getElem? (i := 885) rfl) rfl⟩
set_option maxRecDepth 50000 in
theorem kc_X6_begin : jcalV yX6_begin cX6_begin 3 (some .int) 2 := ⟨⟨lw_good_of (List.mem_of_getElem? (i := 882) rfl) rfl, lw_good_of (List.mem_of_getElem? (i := 68) rfl) rfl, by decide +kernel, by decide +kernel, by decide +kernel⟩, lw_good_of (List.mem_of_getElem? (i := 881) rfl) rfl, lw_good_of (List.mem_of_getElem? (i := 51) rfl) rfl⟩
set_option maxRecDepth 50000 in
theorem kc_X6_end : jcalV yX6_end cX6_end 3 (some .int) 2 := ⟨⟨lw_good_of (List.mem_of_getElem? (i := 878) rfl) rfl, lw_good_of (List.mem_of_getElem? (i := 68) rfl) rfl, by decide +kernel, by decide +kernel, by decide +kernel⟩, lw_good_of (List.mem_of_getElem? (i := 877) rfl) rfl, lw_good_of (List.mem_of_getElem? (i := 50) rfl) rfl⟩
set_option maxRecDepth 50000 in
theorem kc_X6_place : jcalV yX6_place cX6_place 3 (some .int) 2 := ⟨⟨lw_good_of (List.mem_of_getElem? (i := 890) rfl) rfl, lw_good_of (List.mem_of_getElem? (i := 68) rfl) rfl, by decide +kernel, by decide +kernel, by decide +kernel⟩, lw_good_of (List.mem_of_getElem? (i := 888) rfl) rfl, lw_good_of (List.mem_of_getElem? (i := 889) rfl) rfl⟩
set_option maxRecDepth 50000 in
theorem kc_X6_apart : jcalV yX6_apart cX6_apart 4 (some .int) 2 := ⟨⟨lw_good_of (List.mem_of_getElem? (i := 874) rfl) rfl, lw_good_of (List.mem_of_getElem? (i := 68) rfl) rfl, by decide +kernel, by decide +kernel, by decide +kernel⟩, lw_good_of (List.mem_of_getElem? (i := 873) rfl) rfl, lw_good_of (List.mem_of_getElem? (i := 49) rfl) rfl⟩
set_option maxRecDepth 50000 in
theorem kc_X6_overlaps : jcalV yX6_overlaps cX6_overlaps 4 (some .int) 0 := ⟨⟨lw_good_of (List.mem_of_getElem? (i := 870) rfl) rfl, lw_good_of (List.mem_of_getElem? (i := 68) rfl) rfl, by decide +kernel, by decide +kernel, by decide +kernel⟩, lw_good_of (List.mem_of_getElem? (i := 868) rfl) rfl, lw_good_of (List.mem_of_getElem? (i := 869) rfl) rfl⟩
set_option maxRecDepth 50000 in
theorem kc_X6_relative : jcalV yX6_relative cX6_relative 3 (some .int) 2 := ⟨⟨lw_good_of (List.mem_of_getElem? (i := 895) rfl) rfl, lw_good_of (List.mem_of_getElem? (i := 68) rfl) rfl, by decide +kernel, by decide +kernel, by decide +kernel⟩, lw_good_of (List.mem_of_getElem? (i := 893) rfl) rfl, lw_good_of (List.mem_of_getElem? (i := 894) rfl) rfl⟩
set_option maxRecDepth 50000 in
theorem kc_X6_common : jcalV yX6_common cX6_common 6 (some .int) 3 := ⟨⟨lw_good_of (List.mem_of_getElem? (i := 903) rfl) rfl, lw_good_of (List.mem_of_getElem? (i := 68) rfl) rfl, by decide +kernel, by decide +kernel, by decide +kernel⟩, lw_good_of (List.mem_of_getElem? (i := 902) rfl) rfl, lw_good_of (List.mem_of_getElem? (i := 52) rfl) rfl⟩
set_option maxRecDepth 50000 in
theorem kc_X6_support : jcalV yX6_support cX6_support 4 (some .int) 1 := ⟨⟨lw_good_of (List.mem_of_getElem? (i := 899) rfl) rfl, lw_good_of (List.mem_of_getElem? (i := 68) rfl) rfl, by decide +kernel, by decide +kernel, by decide +kernel⟩, lw_good_of (List.mem_of_getElem? (i := 897) rfl) rfl, lw_good_of (List.mem_of_getElem? (i := 898) rfl) rfl⟩
set_option maxRecDepth 50000 in
theorem kc_X6_centre : jcalV yX6_centre cX6_centre 8 (some .int) 2 := ⟨⟨lw_good_of (List.mem_of_getElem? (i := 907) rfl) rfl, lw_good_of (List.mem_of_getElem? (i := 68) rfl) rfl, by decide +kernel, by decide +kernel, by decide +kernel⟩, lw_good_of (List.mem_of_getElem? (i := 905) rfl) rfl, lw_good_of (List.mem_of_getElem? (i := 906) rfl) rfl⟩
set_option maxRecDepth 50000 in
theorem kc_X6_planted : jcalV yX6_planted cX6_planted 8 (some .int) 0 := ⟨⟨lw_good_of (List.mem_of_getElem? (i := 915) rfl) rfl, lw_good_of (List.mem_of_getElem? (i := 68) rfl) rfl, by decide +kernel, by decide +kernel, by decide +kernel⟩, lw_good_of (List.mem_of_getElem? (i := 914) rfl) rfl, lw_good_of (List.mem_of_getElem? (i := 53) rfl) rfl⟩
set_option maxRecDepth 50000 in
theorem kc_X6_firstOf : jcalS yX6_firstOf cX6_firstOf 2 (some .int) 1 := ⟨⟨lw_good_of (List.mem_of_getElem? (i := 918) rfl) rfl, lw_good_of (List.mem_of_getElem? (i := 68) rfl) rfl, by decide +kernel, by decide +kernel, by decide +kernel⟩, lw_good_of (List.mem_of_getElem? (i := 917) rfl) rfl⟩
set_option maxRecDepth 50000 in
theorem kc_X6_cutOf : jcalV yX6_cutOf cX6_cutOf 4 (some .int) 1 := ⟨⟨lw_good_of (List.mem_of_getElem? (i := 922) rfl) rfl, lw_good_of (List.mem_of_getElem? (i := 68) rfl) rfl, by decide +kernel, by decide +kernel, by decide +kernel⟩, lw_good_of (List.mem_of_getElem? (i := 921) rfl) rfl, lw_good_of (List.mem_of_getElem? (i := 54) rfl) rfl⟩
set_option maxRecDepth 50000 in
theorem kc_X6_before : jcalV yX6_before cX6_before 6 (some .int) 3 := ⟨⟨lw_good_of (List.mem_of_getElem? (i := 926) rfl) rfl, lw_good_of (List.mem_of_getElem? (i := 68) rfl) rfl, by decide +kernel, by decide +kernel, by decide +kernel⟩, lw_good_of (List.mem_of_getElem? (i := 925) rfl) rfl, lw_good_of (List.mem_of_getElem? (i := 55) rfl) rfl⟩
set_option maxRecDepth 50000 in
theorem kc_X6_tree : jcalV yX6_tree cX6_tree 1 (some .int) 0 := ⟨⟨lw_good_of (List.mem_of_getElem? (i := 911) rfl) rfl, lw_good_of (List.mem_of_getElem? (i := 68) rfl) rfl, by decide +kernel, by decide +kernel, by decide +kernel⟩, lw_good_of (List.mem_of_getElem? (i := 909) rfl) rfl, lw_good_of (List.mem_of_getElem? (i := 910) rfl) rfl⟩
set_option maxRecDepth 50000 in
theorem kc_X6_node : jcalV yX6_node cX6_node 3 (some .int) 2 := ⟨⟨lw_good_of (List.mem_of_getElem? (i := 930) rfl) rfl, lw_good_of (List.mem_of_getElem? (i := 68) rfl) rfl, by decide +kernel, by decide +kernel, by decide +kernel⟩, lw_good_of (List.mem_of_getElem? (i := 928) rfl) rfl, lw_good_of (List.mem_of_getElem? (i := 929) rfl) rfl⟩
set_option maxRecDepth 50000 in
theorem kc_X6_worth : jcalS yX6_worth cX6_worth 6 (some .int) 3 := ⟨⟨lw_good_of (List.mem_of_getElem? (i := 941) rfl) rfl, lw_good_of (List.mem_of_getElem? (i := 68) rfl) rfl, by decide +kernel, by decide +kernel, by decide +kernel⟩, lw_good_of (List.mem_of_getElem? (i := 940) rfl) rfl⟩
set_option maxRecDepth 50000 in
theorem kc_X6_isDual : jcalV yX6_isDual cX6_isDual 3 (some .boolean) 2 := ⟨⟨lw_good_of (List.mem_of_getElem? (i := 938) rfl) rfl, lw_good_of (List.mem_of_getElem? (i := 68) rfl) rfl, by decide +kernel, by decide +kernel, by decide +kernel⟩, lw_good_of (List.mem_of_getElem? (i := 937) rfl) rfl, lw_good_of (List.mem_of_getElem? (i := 56) rfl) rfl⟩
set_option maxRecDepth 50000 in
theorem kc_X6_dual : jcalV yX6_dual cX6_dual 4 (some .int) 3 := ⟨⟨lw_good_of (List.mem_of_getElem? (i := 934) rfl) rfl, lw_good_of (List.mem_of_getElem? (i := 68) rfl) rfl, by decide +kernel, by decide +kernel, by decide +kernel⟩, lw_good_of (List.mem_of_getElem? (i := 932) rfl) rfl, lw_good_of (List.mem_of_getElem? (i := 933) rfl) rfl⟩
set_option maxRecDepth 50000 in
theorem kc_X6_has_ : jcalV yX6_has_ cX6_has_ 4 (some .long) 3 := ⟨⟨lw_good_of (List.mem_of_getElem? (i := 950) rfl) rfl, lw_good_of (List.mem_of_getElem? (i := 68) rfl) rfl, by decide +kernel, by decide +kernel, by decide +kernel⟩, lw_good_of (List.mem_of_getElem? (i := 949) rfl) rfl, lw_good_of (List.mem_of_getElem? (i := 57) rfl) rfl⟩
set_option maxRecDepth 50000 in
theorem kc_X6_needs : jcalV yX6_needs cX6_needs 14 (some .long) 4 := ⟨⟨lw_good_of (List.mem_of_getElem? (i := 954) rfl) rfl, lw_good_of (List.mem_of_getElem? (i := 68) rfl) rfl, by decide +kernel, by decide +kernel, by decide +kernel⟩, lw_good_of (List.mem_of_getElem? (i := 953) rfl) rfl, lw_good_of (List.mem_of_getElem? (i := 58) rfl) rfl⟩
set_option maxRecDepth 50000 in
theorem kc_X6_need : jcalV yX6_need cX6_need 5 (some .long) 4 := ⟨⟨lw_good_of (List.mem_of_getElem? (i := 945) rfl) rfl, lw_good_of (List.mem_of_getElem? (i := 68) rfl) rfl, by decide +kernel, by decide +kernel, by decide +kernel⟩, lw_good_of (List.mem_of_getElem? (i := 943) rfl) rfl, lw_good_of (List.mem_of_getElem? (i := 944) rfl) rfl⟩
set_option maxRecDepth 50000 in
theorem kc_X6_prove : jcalV yX6_prove cX6_prove 6 none 0 := ⟨⟨lw_good_of (List.mem_of_getElem? (i := 962) rfl) rfl, lw_good_of (List.mem_of_getElem? (i := 68) rfl) rfl, by decide +kernel, by decide +kernel, by decide +kernel⟩, lw_good_of (List.mem_of_getElem? (i := 961) rfl) rfl, lw_good_of (List.mem_of_getElem? (i := 59) rfl) rfl⟩
set_option maxRecDepth 50000 in
theorem kc_X6_proof : jcalV yX6_proof cX6_proof 2 (some .int) 1 := ⟨⟨lw_good_of (List.mem_of_getElem? (i := 958) rfl) rfl, lw_good_of (List.mem_of_getElem? (i := 68) rfl) rfl, by decide +kernel, by decide +kernel, by decide +kernel⟩, lw_good_of (List.mem_of_getElem? (i := 956) rfl) rfl, lw_good_of (List.mem_of_getElem? (i := 957) rfl) rfl⟩
set_option maxRecDepth 50000 in
theorem kc_X6_none : jcalV yX6_none cX6_none 8 (some .int) 5 := ⟨⟨lw_good_of (List.mem_of_getElem? (i := 966) rfl) rfl, lw_good_of (List.mem_of_getElem? (i := 68) rfl) rfl, by decide +kernel, by decide +kernel, by decide +kernel⟩, lw_good_of (List.mem_of_getElem? (i := 964) rfl) rfl, lw_good_of (List.mem_of_getElem? (i := 965) rfl) rfl⟩
set_option maxRecDepth 50000 in
theorem kc_X6_isPossible : jcalV yX6_isPossible cX6_isPossible 12 (some .boolean) 6 := ⟨⟨lw_good_of (List.mem_of_getElem? (i := 970) rfl) rfl, lw_good_of (List.mem_of_getElem? (i := 68) rfl) rfl, by decide +kernel, by decide +kernel, by decide +kernel⟩, lw_good_of (List.mem_of_getElem? (i := 969) rfl) rfl, lw_good_of (List.mem_of_getElem? (i := 60) rfl) rfl⟩
set_option maxRecDepth 50000 in
theorem kc_J6_bitCount_0f7a4 : jcalS yJ6_bitCount_0f7a4 cJ6_bitCount_0f7a4 1 (some .int) 1 := ⟨⟨lw_good_of (List.mem_of_getElem? (i := 361) rfl) rfl, lw_good_of (List.mem_of_getElem? (i := 69) rfl) rfl, by decide +kernel, by decide +kernel, by decide +kernel⟩, lw_good_of (List.mem_of_getElem? (i := 360) rfl) rfl⟩
set_option maxRecDepth 50000 in
theorem kc_J9_max_7cf53 : jcalS yJ9_max_7cf53 cJ9_max_7cf53 2 (some .int) 2 := ⟨⟨lw_good_of (List.mem_of_getElem? (i := 421) rfl) rfl, lw_good_of (List.mem_of_getElem? (i := 70) rfl) rfl, by decide +kernel, by decide +kernel, by decide +kernel⟩, lw_good_of (List.mem_of_getElem? (i := 420) rfl) rfl⟩
set_option maxRecDepth 50000 in
theorem kc_J9_min_7cf53 : jcalS yJ9_min_7cf53 cJ9_min_7cf53 2 (some .int) 2 := ⟨⟨lw_good_of (List.mem_of_getElem? (i := 514) rfl) rfl, lw_good_of (List.mem_of_getElem? (i := 70) rfl) rfl, by decide +kernel, by decide +kernel, by decide +kernel⟩, lw_good_of (List.mem_of_getElem? (i := 513) rfl) rfl⟩
set_option maxRecDepth 50000 in
theorem kl_X5_48 : Cond.methodLink RX5 48 yX5_beginAnew ∈ lw_good := lw_good_of (List.mem_of_getElem? (i := 253) rfl) rfl
set_option maxRecDepth 50000 in
theorem kl_X5_188 : Cond.methodLink RX5 188 yX3_restart ∈ lw_good := lw_good_of (List.mem_of_getElem? (i := 257) rfl) rfl
set_option maxRecDepth 50000 in
theorem kl_X3_49 : Cond.methodLink RX3 49 yX3_orderBoxes ∈ lw_good := lw_good_of (List.mem_of_getElem? (i := 261) rfl) rfl
set_option maxRecDepth 50000 in
theorem kl_X3_72 : Cond.methodLink RX3 72 yX4_volume ∈ lw_good := lw_good_of (List.mem_of_getElem? (i := 265) rfl) rfl
set_option maxRecDepth 50000 in
theorem kl_X3_58 : Cond.methodLink RX3 58 yX3_sumsOfOthers ∈ lw_good := lw_good_of (List.mem_of_getElem? (i := 269) rfl) rfl
set_option maxRecDepth 50000 in
theorem kl_X3_79 : Cond.methodLink RX3 79 yX3_withExtents ∈ lw_good := lw_good_of (List.mem_of_getElem? (i := 273) rfl) rfl
set_option maxRecDepth 50000 in
theorem kl_X3_83 : Cond.methodLink RX3 83 yX4_hasTurn ∈ lw_good := lw_good_of (List.mem_of_getElem? (i := 277) rfl) rfl
set_option maxRecDepth 50000 in
theorem kl_X3_87 : Cond.methodLink RX3 87 yX4_extent ∈ lw_good := lw_good_of (List.mem_of_getElem? (i := 281) rfl) rfl
set_option maxRecDepth 50000 in
theorem kl_X3_68 : Cond.methodLink RX3 68 yX3_enter ∈ lw_good := lw_good_of (List.mem_of_getElem? (i := 287) rfl) rfl
set_option maxRecDepth 50000 in
theorem kl_X5_191 : Cond.methodLink RX5 191 yX2_takeAllAway ∈ lw_good := lw_good_of (List.mem_of_getElem? (i := 291) rfl) rfl
set_option maxRecDepth 50000 in
theorem kl_X5_194 : Cond.methodLink RX5 194 yX1_forget ∈ lw_good := lw_good_of (List.mem_of_getElem? (i := 295) rfl) rfl
set_option maxRecDepth 50000 in
theorem kl_L_13 : Cond.methodLink RL 13 yX5_bin ∈ lw_good := lw_good_of (List.mem_of_getElem? (i := 315) rfl) rfl
set_option maxRecDepth 50000 in
theorem kl_X5_51 : Cond.methodLink RX5 51 yX5_isLength ∈ lw_good := lw_good_of (List.mem_of_getElem? (i := 319) rfl) rfl
set_option maxRecDepth 50000 in
theorem kl_L_18 : Cond.methodLink RL 18 yX5_box ∈ lw_good := lw_good_of (List.mem_of_getElem? (i := 322) rfl) rfl
set_option maxRecDepth 50000 in
theorem kl_X5_63 : Cond.methodLink RX5 63 yX4_append ∈ lw_good := lw_good_of (List.mem_of_getElem? (i := 326) rfl) rfl
set_option maxRecDepth 50000 in
theorem kl_L_22 : Cond.methodLink RL 22 yX5_turns ∈ lw_good := lw_good_of (List.mem_of_getElem? (i := 330) rfl) rfl
set_option maxRecDepth 50000 in
theorem kl_X5_67 : Cond.methodLink RX5 67 yX4_isBox ∈ lw_good := lw_good_of (List.mem_of_getElem? (i := 334) rfl) rfl
set_option maxRecDepth 50000 in
theorem kl_L_27 : Cond.methodLink RL 27 yX5_weight ∈ lw_good := lw_good_of (List.mem_of_getElem? (i := 338) rfl) rfl
set_option maxRecDepth 50000 in
theorem kl_L_31 : Cond.methodLink RL 31 yX5_clear ∈ lw_good := lw_good_of (List.mem_of_getElem? (i := 342) rfl) rfl
set_option maxRecDepth 50000 in
theorem kl_L_36 : Cond.methodLink RL 36 yX5_run ∈ lw_good := lw_good_of (List.mem_of_getElem? (i := 346) rfl) rfl
set_option maxRecDepth 50000 in
theorem kl_X5_76 : Cond.methodLink RX5 76 yX3_goOn ∈ lw_good := lw_good_of (List.mem_of_getElem? (i := 350) rfl) rfl
set_option maxRecDepth 50000 in
theorem kl_X3_108 : Cond.methodLink RX3 108 yX3_lookAlongRow ∈ lw_good := lw_good_of (List.mem_of_getElem? (i := 355) rfl) rfl
set_option maxRecDepth 50000 in
theorem kl_X3_90 : Cond.methodLink RX3 90 yJ6_bitCount_0f7a4 ∈ lw_good := lw_good_of (List.mem_of_getElem? (i := 359) rfl) rfl
set_option maxRecDepth 50000 in
theorem kl_X3_143 : Cond.methodLink RX3 143 yX3_lookAtBlocked ∈ lw_good := lw_good_of (List.mem_of_getElem? (i := 365) rfl) rfl
set_option maxRecDepth 50000 in
theorem kl_X3_124 : Cond.methodLinkNest RX3 124 yX5_lowest "PlaceRectangles" ∈ jnest := by decide +kernel
set_option maxRecDepth 50000 in
theorem kl_X5_197 : Cond.methodLink RX5 197 yJ6_bitCount_0f7a4 ∈ lw_good := lw_good_of (List.mem_of_getElem? (i := 372) rfl) rfl
set_option maxRecDepth 50000 in
theorem kl_X3_146 : Cond.methodLink RX3 146 yX3_take ∈ lw_good := lw_good_of (List.mem_of_getElem? (i := 373) rfl) rfl
set_option maxRecDepth 50000 in
theorem kl_X3_127 : Cond.methodLink RX3 127 yX3_setAxis ∈ lw_good := lw_good_of (List.mem_of_getElem? (i := 377) rfl) rfl
set_option maxRecDepth 50000 in
theorem kl_X3_111 : Cond.methodLink RX3 111 yX3_nextRow ∈ lw_good := lw_good_of (List.mem_of_getElem? (i := 381) rfl) rfl
set_option maxRecDepth 50000 in
theorem kl_X3_118 : Cond.methodLink RX3 118 yX3_nextTurn ∈ lw_good := lw_good_of (List.mem_of_getElem? (i := 385) rfl) rfl
set_option maxRecDepth 50000 in
theorem kl_X3_95 : Cond.methodLink RX3 95 yX4_counts ∈ lw_good := lw_good_of (List.mem_of_getElem? (i := 389) rfl) rfl
set_option maxRecDepth 50000 in
theorem kl_X4_35 : Cond.methodLink RX4 35 yX4_hasTurn ∈ lw_good := lw_good_of (List.mem_of_getElem? (i := 393) rfl) rfl
set_option maxRecDepth 50000 in
theorem kl_X4_39 : Cond.methodLink RX4 39 yX4_isShort ∈ lw_good := lw_good_of (List.mem_of_getElem? (i := 394) rfl) rfl
set_option maxRecDepth 50000 in
theorem kl_X4_31 : Cond.methodLink RX4 31 yX4_extent ∈ lw_good := lw_good_of (List.mem_of_getElem? (i := 398) rfl) rfl
set_option maxRecDepth 50000 in
theorem kl_X4_42 : Cond.methodLink RX4 42 yX4_sameExtents ∈ lw_good := lw_good_of (List.mem_of_getElem? (i := 399) rfl) rfl
set_option maxRecDepth 50000 in
theorem kl_X3_135 : Cond.methodLink RX3 135 yX3_turnTo ∈ lw_good := lw_good_of (List.mem_of_getElem? (i := 403) rfl) rfl
set_option maxRecDepth 50000 in
theorem kl_X3_98 : Cond.methodLink RX3 98 yX3_wayCoordinates ∈ lw_good := lw_good_of (List.mem_of_getElem? (i := 407) rfl) rfl
set_option maxRecDepth 50000 in
theorem kl_X3_121 : Cond.methodLink RX3 121 yX3_nextLayer ∈ lw_good := lw_good_of (List.mem_of_getElem? (i := 411) rfl) rfl
set_option maxRecDepth 50000 in
theorem kl_X3_131 : Cond.methodLink RX3 131 yX3_blockedInRow ∈ lw_good := lw_good_of (List.mem_of_getElem? (i := 415) rfl) rfl
set_option maxRecDepth 50000 in
theorem kl_X3_138 : Cond.methodLink RX3 138 yJ9_max_7cf53 ∈ lw_good := lw_good_of (List.mem_of_getElem? (i := 419) rfl) rfl
set_option maxRecDepth 50000 in
theorem kl_X3_115 : Cond.methodLink RX3 115 yX3_goBack ∈ lw_good := lw_good_of (List.mem_of_getElem? (i := 422) rfl) rfl
set_option maxRecDepth 50000 in
theorem kl_L_41 : Cond.methodLink RL 41 yX5_told ∈ lw_good := lw_good_of (List.mem_of_getElem? (i := 426) rfl) rfl
set_option maxRecDepth 50000 in
theorem kl_X5_86 : Cond.methodLink RX5 86 yX3_wayCount ∈ lw_good := lw_good_of (List.mem_of_getElem? (i := 430) rfl) rfl
set_option maxRecDepth 50000 in
theorem kl_X5_89 : Cond.methodLink RX5 89 yX3_coordinateCount ∈ lw_good := lw_good_of (List.mem_of_getElem? (i := 434) rfl) rfl
set_option maxRecDepth 50000 in
theorem kl_L_45 : Cond.methodLink RL 45 yX5_plan ∈ lw_good := lw_good_of (List.mem_of_getElem? (i := 438) rfl) rfl
set_option maxRecDepth 50000 in
theorem kl_X5_102 : Cond.methodLink RX5 102 yX2_put ∈ lw_good := lw_good_of (List.mem_of_getElem? (i := 442) rfl) rfl
set_option maxRecDepth 50000 in
theorem kl_X2_29 : Cond.methodLink RX2 29 yX4_extent ∈ lw_good := lw_good_of (List.mem_of_getElem? (i := 446) rfl) rfl
set_option maxRecDepth 50000 in
theorem kl_L_49 : Cond.methodLink RL 49 yX5_lay ∈ lw_good := lw_good_of (List.mem_of_getElem? (i := 447) rfl) rfl
set_option maxRecDepth 50000 in
theorem kl_X5_106 : Cond.methodLink RX5 106 yX4_isPlace ∈ lw_good := lw_good_of (List.mem_of_getElem? (i := 451) rfl) rfl
set_option maxRecDepth 50000 in
theorem kl_X4_46 : Cond.methodLink RX4 46 yX4_isBox ∈ lw_good := lw_good_of (List.mem_of_getElem? (i := 455) rfl) rfl
set_option maxRecDepth 50000 in
theorem kl_X4_50 : Cond.methodLink RX4 50 yX4_liesWithin ∈ lw_good := lw_good_of (List.mem_of_getElem? (i := 456) rfl) rfl
set_option maxRecDepth 50000 in
theorem kl_X5_110 : Cond.methodLink RX5 110 yX2_overlapCount ∈ lw_good := lw_good_of (List.mem_of_getElem? (i := 460) rfl) rfl
set_option maxRecDepth 50000 in
theorem kl_X2_35 : Cond.methodLink RX2 35 yX2_holds ∈ lw_good := lw_good_of (List.mem_of_getElem? (i := 464) rfl) rfl
set_option maxRecDepth 50000 in
theorem kl_X2_39 : Cond.methodLink RX2 39 yX2_firstGap ∈ lw_good := lw_good_of (List.mem_of_getElem? (i := 468) rfl) rfl
set_option maxRecDepth 50000 in
theorem kl_L_54 : Cond.methodLink RL 54 yX5_lift ∈ lw_good := lw_good_of (List.mem_of_getElem? (i := 472) rfl) rfl
set_option maxRecDepth 50000 in
theorem kl_X5_114 : Cond.methodLink RX5 114 yX2_holds ∈ lw_good := lw_good_of (List.mem_of_getElem? (i := 476) rfl) rfl
set_option maxRecDepth 50000 in
theorem kl_X5_117 : Cond.methodLink RX5 117 yX2_takeAway ∈ lw_good := lw_good_of (List.mem_of_getElem? (i := 477) rfl) rfl
set_option maxRecDepth 50000 in
theorem kl_L_58 : Cond.methodLink RL 58 yX5_place ∈ lw_good := lw_good_of (List.mem_of_getElem? (i := 481) rfl) rfl
set_option maxRecDepth 50000 in
theorem kl_X5_125 : Cond.methodLink RX5 125 yX2_extentOf ∈ lw_good := lw_good_of (List.mem_of_getElem? (i := 485) rfl) rfl
set_option maxRecDepth 50000 in
theorem kl_L_62 : Cond.methodLink RL 62 yX5_overlaps ∈ lw_good := lw_good_of (List.mem_of_getElem? (i := 489) rfl) rfl
set_option maxRecDepth 50000 in
theorem kl_L_66 : Cond.methodLink RL 66 yX5_relative ∈ lw_good := lw_good_of (List.mem_of_getElem? (i := 493) rfl) rfl
set_option maxRecDepth 50000 in
theorem kl_X5_128 : Cond.methodLink RX5 128 yX2_firstGap ∈ lw_good := lw_good_of (List.mem_of_getElem? (i := 497) rfl) rfl
set_option maxRecDepth 50000 in
theorem kl_L_70 : Cond.methodLink RL 70 yX5_support ∈ lw_good := lw_good_of (List.mem_of_getElem? (i := 498) rfl) rfl
set_option maxRecDepth 50000 in
theorem kl_X5_131 : Cond.methodLink RX5 131 yX2_heldArea ∈ lw_good := lw_good_of (List.mem_of_getElem? (i := 502) rfl) rfl
set_option maxRecDepth 50000 in
theorem kl_X2_43 : Cond.methodLink RX2 43 yX2_extentOf ∈ lw_good := lw_good_of (List.mem_of_getElem? (i := 506) rfl) rfl
set_option maxRecDepth 50000 in
theorem kl_X2_46 : Cond.methodLink RX2 46 yX2_commonLength ∈ lw_good := lw_good_of (List.mem_of_getElem? (i := 507) rfl) rfl
set_option maxRecDepth 50000 in
theorem kl_X2_49 : Cond.methodLink RX2 49 yJ9_max_7cf53 ∈ lw_good := lw_good_of (List.mem_of_getElem? (i := 511) rfl) rfl
set_option maxRecDepth 50000 in
theorem kl_X2_54 : Cond.methodLink RX2 54 yJ9_min_7cf53 ∈ lw_good := lw_good_of (List.mem_of_getElem? (i := 512) rfl) rfl
set_option maxRecDepth 50000 in
theorem kl_L_74 : Cond.methodLink RL 74 yX5_centre ∈ lw_good := lw_good_of (List.mem_of_getElem? (i := 515) rfl) rfl
set_option maxRecDepth 50000 in
theorem kl_X5_134 : Cond.methodLink RX5 134 yX5_isAxis ∈ lw_good := lw_good_of (List.mem_of_getElem? (i := 519) rfl) rfl
set_option maxRecDepth 50000 in
theorem kl_X5_137 : Cond.methodLink RX5 137 yX2_doubledMoment ∈ lw_good := lw_good_of (List.mem_of_getElem? (i := 522) rfl) rfl
set_option maxRecDepth 50000 in
theorem kl_X5_140 : Cond.methodLink RX5 140 yX2_weightSum ∈ lw_good := lw_good_of (List.mem_of_getElem? (i := 526) rfl) rfl
set_option maxRecDepth 50000 in
theorem kl_X5_143 : Cond.methodLink RX5 143 yX5_commonDivisor ∈ lw_good := lw_good_of (List.mem_of_getElem? (i := 530) rfl) rfl
set_option maxRecDepth 50000 in
theorem kl_L_78 : Cond.methodLink RL 78 yX5_tree ∈ lw_good := lw_good_of (List.mem_of_getElem? (i := 533) rfl) rfl
set_option maxRecDepth 50000 in
theorem kl_X5_146 : Cond.methodLink RX5 146 yX0_build ∈ lw_good := lw_good_of (List.mem_of_getElem? (i := 537) rfl) rfl
set_option maxRecDepth 50000 in
theorem kl_X0_28 : Cond.methodLinkNest RX0 28 yX5_lowest "PlaceRectangles" ∈ jnest := by decide +kernel
set_option maxRecDepth 50000 in
theorem kl_X0_32 : Cond.methodLink RX0 32 yX0_write ∈ lw_good := lw_good_of (List.mem_of_getElem? (i := 542) rfl) rfl
set_option maxRecDepth 50000 in
theorem kl_X0_36 : Cond.methodLink RX0 36 yX0_axisOfCut ∈ lw_good := lw_good_of (List.mem_of_getElem? (i := 546) rfl) rfl
set_option maxRecDepth 50000 in
theorem kl_X0_39 : Cond.methodLink RX0 39 yX0_cutPlaces ∈ lw_good := lw_good_of (List.mem_of_getElem? (i := 550) rfl) rfl
set_option maxRecDepth 50000 in
theorem kl_X0_58 : Cond.methodLink RX0 58 yJ9_min_7cf53 ∈ lw_good := lw_good_of (List.mem_of_getElem? (i := 554) rfl) rfl
set_option maxRecDepth 50000 in
theorem kl_X0_63 : Cond.methodLink RX0 63 yJ9_max_7cf53 ∈ lw_good := lw_good_of (List.mem_of_getElem? (i := 555) rfl) rfl
set_option maxRecDepth 50000 in
theorem kl_X0_43 : Cond.methodLink RX0 43 yX0_boxesBefore ∈ lw_good := lw_good_of (List.mem_of_getElem? (i := 556) rfl) rfl
set_option maxRecDepth 50000 in
theorem kl_X0_47 : Cond.methodLink RX0 47 yJ6_bitCount_0f7a4 ∈ lw_good := lw_good_of (List.mem_of_getElem? (i := 560) rfl) rfl
set_option maxRecDepth 50000 in
theorem kl_L_82 : Cond.methodLink RL 82 yX5_node ∈ lw_good := lw_good_of (List.mem_of_getElem? (i := 561) rfl) rfl
set_option maxRecDepth 50000 in
theorem kl_L_86 : Cond.methodLink RL 86 yX5_dual ∈ lw_good := lw_good_of (List.mem_of_getElem? (i := 565) rfl) rfl
set_option maxRecDepth 50000 in
theorem kl_X5_152 : Cond.methodLink RX5 152 yX1_isFunction ∈ lw_good := lw_good_of (List.mem_of_getElem? (i := 569) rfl) rfl
set_option maxRecDepth 50000 in
theorem kl_X1_46 : Cond.methodLink RX1 46 yX1_lastFunction ∈ lw_good := lw_good_of (List.mem_of_getElem? (i := 573) rfl) rfl
set_option maxRecDepth 50000 in
theorem kl_X5_156 : Cond.methodLink RX5 156 yX1_valueOf ∈ lw_good := lw_good_of (List.mem_of_getElem? (i := 577) rfl) rfl
set_option maxRecDepth 50000 in
theorem kl_L_90 : Cond.methodLink RL 90 yX5_need ∈ lw_good := lw_good_of (List.mem_of_getElem? (i := 580) rfl) rfl
set_option maxRecDepth 50000 in
theorem kl_X5_162 : Cond.methodLink RX5 162 yX1_prepare ∈ lw_good := lw_good_of (List.mem_of_getElem? (i := 585) rfl) rfl
set_option maxRecDepth 50000 in
theorem kl_X1_50 : Cond.methodLink RX1 50 yX1_tellValues ∈ lw_good := lw_good_of (List.mem_of_getElem? (i := 589) rfl) rfl
set_option maxRecDepth 50000 in
theorem kl_X1_62 : Cond.methodLink RX1 62 yX1_valueOf ∈ lw_good := lw_good_of (List.mem_of_getElem? (i := 593) rfl) rfl
set_option maxRecDepth 50000 in
theorem kl_X1_58 : Cond.methodLink RX1 58 yX1_tellTurns ∈ lw_good := lw_good_of (List.mem_of_getElem? (i := 594) rfl) rfl
set_option maxRecDepth 50000 in
theorem kl_X1_66 : Cond.methodLink RX1 66 yX4_counts ∈ lw_good := lw_good_of (List.mem_of_getElem? (i := 598) rfl) rfl
set_option maxRecDepth 50000 in
theorem kl_X1_70 : Cond.methodLink RX1 70 yX4_extent ∈ lw_good := lw_good_of (List.mem_of_getElem? (i := 599) rfl) rfl
set_option maxRecDepth 50000 in
theorem kl_X5_165 : Cond.methodLink RX5 165 yX1_choose ∈ lw_good := lw_good_of (List.mem_of_getElem? (i := 600) rfl) rfl
set_option maxRecDepth 50000 in
theorem kl_X5_169 : Cond.methodLink RX5 169 yX4_allBoxes ∈ lw_good := lw_good_of (List.mem_of_getElem? (i := 604) rfl) rfl
set_option maxRecDepth 50000 in
theorem kl_X5_172 : Cond.methodLink RX5 172 yX1_needOf ∈ lw_good := lw_good_of (List.mem_of_getElem? (i := 608) rfl) rfl
set_option maxRecDepth 50000 in
theorem kl_X1_76 : Cond.methodLink RX1 76 yX1_binHas ∈ lw_good := lw_good_of (List.mem_of_getElem? (i := 612) rfl) rfl
set_option maxRecDepth 50000 in
theorem kl_X1_79 : Cond.methodLink RX1 79 yJ9_min_7cf53 ∈ lw_good := lw_good_of (List.mem_of_getElem? (i := 616) rfl) rfl
set_option maxRecDepth 50000 in
theorem kl_X5_175 : Cond.methodLink RX5 175 yX1_binHas ∈ lw_good := lw_good_of (List.mem_of_getElem? (i := 617) rfl) rfl
set_option maxRecDepth 50000 in
theorem kl_L_95 : Cond.methodLink RL 95 yX5_proof ∈ lw_good := lw_good_of (List.mem_of_getElem? (i := 618) rfl) rfl
set_option maxRecDepth 50000 in
theorem kl_X5_178 : Cond.methodLink RX5 178 yX1_seekProof ∈ lw_good := lw_good_of (List.mem_of_getElem? (i := 622) rfl) rfl
set_option maxRecDepth 50000 in
theorem kl_X1_87 : Cond.methodLink RX1 87 yX1_prepare ∈ lw_good := lw_good_of (List.mem_of_getElem? (i := 626) rfl) rfl
set_option maxRecDepth 50000 in
theorem kl_X1_90 : Cond.methodLink RX1 90 yX1_leaveOutIdle ∈ lw_good := lw_good_of (List.mem_of_getElem? (i := 627) rfl) rfl
set_option maxRecDepth 50000 in
theorem kl_X1_93 : Cond.methodLink RX1 93 yX1_isTried ∈ lw_good := lw_good_of (List.mem_of_getElem? (i := 631) rfl) rfl
set_option maxRecDepth 50000 in
theorem kl_X1_117 : Cond.methodLink RX1 117 yX1_givesNoLess ∈ lw_good := lw_good_of (List.mem_of_getElem? (i := 635) rfl) rfl
set_option maxRecDepth 50000 in
theorem kl_X1_96 : Cond.methodLink RX1 96 yX1_seekOnLastAxis ∈ lw_good := lw_good_of (List.mem_of_getElem? (i := 639) rfl) rfl
set_option maxRecDepth 50000 in
theorem kl_X1_103 : Cond.methodLink RX1 103 yX1_choose ∈ lw_good := lw_good_of (List.mem_of_getElem? (i := 643) rfl) rfl
set_option maxRecDepth 50000 in
theorem kl_X1_107 : Cond.methodLink RX1 107 yX4_allBoxes ∈ lw_good := lw_good_of (List.mem_of_getElem? (i := 644) rfl) rfl
set_option maxRecDepth 50000 in
theorem kl_X1_111 : Cond.methodLink RX1 111 yX1_proves ∈ lw_good := lw_good_of (List.mem_of_getElem? (i := 645) rfl) rfl
set_option maxRecDepth 50000 in
theorem kl_X1_84 : Cond.methodLink RX1 84 yX1_needOf ∈ lw_good := lw_good_of (List.mem_of_getElem? (i := 649) rfl) rfl
set_option maxRecDepth 50000 in
theorem kl_X1_114 : Cond.methodLink RX1 114 yX1_reason ∈ lw_good := lw_good_of (List.mem_of_getElem? (i := 650) rfl) rfl
set_option maxRecDepth 50000 in
theorem kl_X1_99 : Cond.methodLink RX1 99 yX1_keep ∈ lw_good := lw_good_of (List.mem_of_getElem? (i := 654) rfl) rfl
set_option maxRecDepth 50000 in
theorem kl_L_99 : Cond.methodLink RL 99 yX5_none ∈ lw_good := lw_good_of (List.mem_of_getElem? (i := 658) rfl) rfl
set_option maxRecDepth 50000 in
theorem kl_X5_184 : Cond.methodLink RX5 184 yX4_hasRoomBeside ∈ lw_good := lw_good_of (List.mem_of_getElem? (i := 662) rfl) rfl
set_option maxRecDepth 50000 in
theorem kl_X4_53 : Cond.methodLink RX4 53 yJ9_max_7cf53 ∈ lw_good := lw_good_of (List.mem_of_getElem? (i := 666) rfl) rfl
set_option maxRecDepth 50000 in
theorem kl_X4_59 : Cond.methodLink RX4 59 yX4_counts ∈ lw_good := lw_good_of (List.mem_of_getElem? (i := 667) rfl) rfl
set_option maxRecDepth 50000 in
theorem kl_X6_74 : Cond.methodLink RX6 74 yX6_anew ∈ lw_good := lw_good_of (List.mem_of_getElem? (i := 674) rfl) rfl
set_option maxRecDepth 50000 in
theorem kl_X6_95 : Cond.methodLink RX6 95 yX6_volume ∈ lw_good := lw_good_of (List.mem_of_getElem? (i := 678) rfl) rfl
set_option maxRecDepth 50000 in
theorem kl_X6_99 : Cond.methodLink RX6 99 yX6_sum ∈ lw_good := lw_good_of (List.mem_of_getElem? (i := 682) rfl) rfl
set_option maxRecDepth 50000 in
theorem kl_X6_118 : Cond.methodLink RX6 118 yX6_has ∈ lw_good := lw_good_of (List.mem_of_getElem? (i := 686) rfl) rfl
set_option maxRecDepth 50000 in
theorem kl_X6_121 : Cond.methodLink RX6 121 yX6_extent ∈ lw_good := lw_good_of (List.mem_of_getElem? (i := 690) rfl) rfl
set_option maxRecDepth 50000 in
theorem kl_X6_77 : Cond.methodLink RX6 77 yX6_sideOf ∈ lw_good := lw_good_of (List.mem_of_getElem? (i := 694) rfl) rfl
set_option maxRecDepth 50000 in
theorem kl_X6_103 : Cond.methodLink RX6 103 yX6_counted ∈ lw_good := lw_good_of (List.mem_of_getElem? (i := 697) rfl) rfl
set_option maxRecDepth 50000 in
theorem kl_X6_124 : Cond.methodLink RX6 124 yX6_isSum ∈ lw_good := lw_good_of (List.mem_of_getElem? (i := 701) rfl) rfl
set_option maxRecDepth 50000 in
theorem kl_X6_107 : Cond.methodLink RX6 107 yX6_isFirst ∈ lw_good := lw_good_of (List.mem_of_getElem? (i := 705) rfl) rfl
set_option maxRecDepth 50000 in
theorem kl_X6_111 : Cond.methodLink RX6 111 yX6_many ∈ lw_good := lw_good_of (List.mem_of_getElem? (i := 709) rfl) rfl
set_option maxRecDepth 50000 in
theorem kl_L_40 : Cond.methodLink RL 40 yX6_run ∈ lw_good := lw_good_of (List.mem_of_getElem? (i := 796) rfl) rfl
set_option maxRecDepth 50000 in
theorem kl_X6_138 : Cond.methodLink RX6 138 yX6_ways ∈ lw_good := lw_good_of (List.mem_of_getElem? (i := 800) rfl) rfl
set_option maxRecDepth 50000 in
theorem kl_X6_128 : Cond.methodLink RX6 128 yX6_waysOf ∈ lw_good := lw_good_of (List.mem_of_getElem? (i := 804) rfl) rfl
set_option maxRecDepth 50000 in
theorem kl_X6_141 : Cond.methodLink RX6 141 yX6_goes ∈ lw_good := lw_good_of (List.mem_of_getElem? (i := 808) rfl) rfl
set_option maxRecDepth 50000 in
theorem kl_X6_131 : Cond.methodLink RX6 131 yX6_coordinate ∈ lw_good := lw_good_of (List.mem_of_getElem? (i := 812) rfl) rfl
set_option maxRecDepth 50000 in
theorem kl_X6_144 : Cond.methodLink RX6 144 yX6_isPlanned ∈ lw_good := lw_good_of (List.mem_of_getElem? (i := 816) rfl) rfl
set_option maxRecDepth 50000 in
theorem kl_X6_134 : Cond.methodLink RX6 134 yX6_isApart ∈ lw_good := lw_good_of (List.mem_of_getElem? (i := 820) rfl) rfl
set_option maxRecDepth 50000 in
theorem kl_L_17 : Cond.methodLink RL 17 yX6_bin ∈ lw_good := lw_good_of (List.mem_of_getElem? (i := 824) rfl) rfl
set_option maxRecDepth 50000 in
theorem kl_X6_148 : Cond.methodLink RX6 148 yX6_isSide ∈ lw_good := lw_good_of (List.mem_of_getElem? (i := 828) rfl) rfl
set_option maxRecDepth 50000 in
theorem kl_L_21 : Cond.methodLink RL 21 yX6_box ∈ lw_good := lw_good_of (List.mem_of_getElem? (i := 831) rfl) rfl
set_option maxRecDepth 50000 in
theorem kl_L_26 : Cond.methodLink RL 26 yX6_turns ∈ lw_good := lw_good_of (List.mem_of_getElem? (i := 835) rfl) rfl
set_option maxRecDepth 50000 in
theorem kl_X6_151 : Cond.methodLink RX6 151 yX6_isBox ∈ lw_good := lw_good_of (List.mem_of_getElem? (i := 839) rfl) rfl
set_option maxRecDepth 50000 in
theorem kl_L_30 : Cond.methodLink RL 30 yX6_weight ∈ lw_good := lw_good_of (List.mem_of_getElem? (i := 843) rfl) rfl
set_option maxRecDepth 50000 in
theorem kl_L_35 : Cond.methodLink RL 35 yX6_clear ∈ lw_good := lw_good_of (List.mem_of_getElem? (i := 847) rfl) rfl
set_option maxRecDepth 50000 in
theorem kl_L_44 : Cond.methodLink RL 44 yX6_told ∈ lw_good := lw_good_of (List.mem_of_getElem? (i := 851) rfl) rfl
set_option maxRecDepth 50000 in
theorem kl_L_48 : Cond.methodLink RL 48 yX6_plan ∈ lw_good := lw_good_of (List.mem_of_getElem? (i := 855) rfl) rfl
set_option maxRecDepth 50000 in
theorem kl_L_53 : Cond.methodLink RL 53 yX6_lay ∈ lw_good := lw_good_of (List.mem_of_getElem? (i := 859) rfl) rfl
set_option maxRecDepth 50000 in
theorem kl_X6_154 : Cond.methodLink RX6 154 yX6_isPlace ∈ lw_good := lw_good_of (List.mem_of_getElem? (i := 863) rfl) rfl
set_option maxRecDepth 50000 in
theorem kl_X6_158 : Cond.methodLink RX6 158 yX6_overlaps ∈ lw_good := lw_good_of (List.mem_of_getElem? (i := 867) rfl) rfl
set_option maxRecDepth 50000 in
theorem kl_X6_168 : Cond.methodLink RX6 168 yX6_apart ∈ lw_good := lw_good_of (List.mem_of_getElem? (i := 871) rfl) rfl
set_option maxRecDepth 50000 in
theorem kl_X6_165 : Cond.methodLink RX6 165 yX6_end ∈ lw_good := lw_good_of (List.mem_of_getElem? (i := 875) rfl) rfl
set_option maxRecDepth 50000 in
theorem kl_X6_162 : Cond.methodLink RX6 162 yX6_begin ∈ lw_good := lw_good_of (List.mem_of_getElem? (i := 879) rfl) rfl
set_option maxRecDepth 50000 in
theorem kl_L_57 : Cond.methodLink RL 57 yX6_lift ∈ lw_good := lw_good_of (List.mem_of_getElem? (i := 883) rfl) rfl
set_option maxRecDepth 50000 in
theorem kl_L_61 : Cond.methodLink RL 61 yX6_place ∈ lw_good := lw_good_of (List.mem_of_getElem? (i := 887) rfl) rfl
set_option maxRecDepth 50000 in
theorem kl_L_65 : Cond.methodLink RL 65 yX6_overlaps ∈ lw_good := lw_good_of (List.mem_of_getElem? (i := 891) rfl) rfl
set_option maxRecDepth 50000 in
theorem kl_L_69 : Cond.methodLink RL 69 yX6_relative ∈ lw_good := lw_good_of (List.mem_of_getElem? (i := 892) rfl) rfl
set_option maxRecDepth 50000 in
theorem kl_L_73 : Cond.methodLink RL 73 yX6_support ∈ lw_good := lw_good_of (List.mem_of_getElem? (i := 896) rfl) rfl
set_option maxRecDepth 50000 in
theorem kl_X6_171 : Cond.methodLink RX6 171 yX6_common ∈ lw_good := lw_good_of (List.mem_of_getElem? (i := 900) rfl) rfl
set_option maxRecDepth 50000 in
theorem kl_L_77 : Cond.methodLink RL 77 yX6_centre ∈ lw_good := lw_good_of (List.mem_of_getElem? (i := 904) rfl) rfl
set_option maxRecDepth 50000 in
theorem kl_L_81 : Cond.methodLink RL 81 yX6_tree ∈ lw_good := lw_good_of (List.mem_of_getElem? (i := 908) rfl) rfl
set_option maxRecDepth 50000 in
theorem kl_X6_186 : Cond.methodLink RX6 186 yX6_planted ∈ lw_good := lw_good_of (List.mem_of_getElem? (i := 912) rfl) rfl
set_option maxRecDepth 50000 in
theorem kl_X6_177 : Cond.methodLink RX6 177 yX6_firstOf ∈ lw_good := lw_good_of (List.mem_of_getElem? (i := 916) rfl) rfl
set_option maxRecDepth 50000 in
theorem kl_X6_180 : Cond.methodLink RX6 180 yX6_cutOf ∈ lw_good := lw_good_of (List.mem_of_getElem? (i := 919) rfl) rfl
set_option maxRecDepth 50000 in
theorem kl_X6_183 : Cond.methodLink RX6 183 yX6_before ∈ lw_good := lw_good_of (List.mem_of_getElem? (i := 923) rfl) rfl
set_option maxRecDepth 50000 in
theorem kl_L_85 : Cond.methodLink RL 85 yX6_node ∈ lw_good := lw_good_of (List.mem_of_getElem? (i := 927) rfl) rfl
set_option maxRecDepth 50000 in
theorem kl_L_89 : Cond.methodLink RL 89 yX6_dual ∈ lw_good := lw_good_of (List.mem_of_getElem? (i := 931) rfl) rfl
set_option maxRecDepth 50000 in
theorem kl_X6_189 : Cond.methodLink RX6 189 yX6_isDual ∈ lw_good := lw_good_of (List.mem_of_getElem? (i := 935) rfl) rfl
set_option maxRecDepth 50000 in
theorem kl_X6_192 : Cond.methodLink RX6 192 yX6_worth ∈ lw_good := lw_good_of (List.mem_of_getElem? (i := 939) rfl) rfl
set_option maxRecDepth 50000 in
theorem kl_L_94 : Cond.methodLink RL 94 yX6_need ∈ lw_good := lw_good_of (List.mem_of_getElem? (i := 942) rfl) rfl
set_option maxRecDepth 50000 in
theorem kl_X6_195 : Cond.methodLink RX6 195 yX6_has_ ∈ lw_good := lw_good_of (List.mem_of_getElem? (i := 947) rfl) rfl
set_option maxRecDepth 50000 in
theorem kl_X6_200 : Cond.methodLink RX6 200 yX6_needs ∈ lw_good := lw_good_of (List.mem_of_getElem? (i := 951) rfl) rfl
set_option maxRecDepth 50000 in
theorem kl_L_98 : Cond.methodLink RL 98 yX6_proof ∈ lw_good := lw_good_of (List.mem_of_getElem? (i := 955) rfl) rfl
set_option maxRecDepth 50000 in
theorem kl_X6_204 : Cond.methodLink RX6 204 yX6_prove ∈ lw_good := lw_good_of (List.mem_of_getElem? (i := 959) rfl) rfl
set_option maxRecDepth 50000 in
theorem kl_L_102 : Cond.methodLink RL 102 yX6_none ∈ lw_good := lw_good_of (List.mem_of_getElem? (i := 963) rfl) rfl
set_option maxRecDepth 50000 in
theorem kl_X6_207 : Cond.methodLink RX6 207 yX6_isPossible ∈ lw_good := lw_good_of (List.mem_of_getElem? (i := 967) rfl) rfl
set_option maxRecDepth 50000 in
theorem kf_X4_9 : Cond.fieldLink RX4 9 (TX4 0).1 (TX4 0).2.1 (TX4 0).2.2.1 ∈ lw_good := lw_good_of (List.mem_of_getElem? (i := 85) rfl) rfl
set_option maxRecDepth 50000 in
theorem kf_X5_55 : Cond.fieldLink RX5 55 (TX4 0).1 (TX4 0).2.1 (TX4 0).2.2.1 ∈ lw_good := lw_good_of (List.mem_of_getElem? (i := 86) rfl) rfl
set_option maxRecDepth 50000 in
theorem kf_X1_41 : Cond.fieldLink RX1 41 (TX4 0).1 (TX4 0).2.1 (TX4 0).2.2.1 ∈ lw_good := lw_good_of (List.mem_of_getElem? (i := 87) rfl) rfl
set_option maxRecDepth 50000 in
theorem kf_X3_76 : Cond.fieldLink RX3 76 (TX4 0).1 (TX4 0).2.1 (TX4 0).2.2.1 ∈ lw_good := lw_good_of (List.mem_of_getElem? (i := 88) rfl) rfl
set_option maxRecDepth 50000 in
theorem kf_X4_15 : Cond.fieldLink RX4 15 (TX4 1).1 (TX4 1).2.1 (TX4 1).2.2.1 ∈ lw_good := lw_good_of (List.mem_of_getElem? (i := 89) rfl) rfl
set_option maxRecDepth 50000 in
theorem kf_X4_18 : Cond.fieldLink RX4 18 (TX4 2).1 (TX4 2).2.1 (TX4 2).2.2.1 ∈ lw_good := lw_good_of (List.mem_of_getElem? (i := 90) rfl) rfl
set_option maxRecDepth 50000 in
theorem kf_X5_70 : Cond.fieldLink RX5 70 (TX4 2).1 (TX4 2).2.1 (TX4 2).2.2.1 ∈ lw_good := lw_good_of (List.mem_of_getElem? (i := 91) rfl) rfl
set_option maxRecDepth 50000 in
theorem kf_X4_21 : Cond.fieldLink RX4 21 (TX4 3).1 (TX4 3).2.1 (TX4 3).2.2.1 ∈ lw_good := lw_good_of (List.mem_of_getElem? (i := 92) rfl) rfl
set_option maxRecDepth 50000 in
theorem kf_X5_73 : Cond.fieldLink RX5 73 (TX4 3).1 (TX4 3).2.1 (TX4 3).2.2.1 ∈ lw_good := lw_good_of (List.mem_of_getElem? (i := 93) rfl) rfl
set_option maxRecDepth 50000 in
theorem kf_X2_57 : Cond.fieldLink RX2 57 (TX4 3).1 (TX4 3).2.1 (TX4 3).2.2.1 ∈ lw_good := lw_good_of (List.mem_of_getElem? (i := 94) rfl) rfl
set_option maxRecDepth 50000 in
theorem kf_X4_24 : Cond.fieldLink RX4 24 (TX4 4).1 (TX4 4).2.1 (TX4 4).2.2.1 ∈ lw_good := lw_good_of (List.mem_of_getElem? (i := 95) rfl) rfl
set_option maxRecDepth 50000 in
theorem kf_X3_52 : Cond.fieldLink RX3 52 (TX4 4).1 (TX4 4).2.1 (TX4 4).2.2.1 ∈ lw_good := lw_good_of (List.mem_of_getElem? (i := 96) rfl) rfl
set_option maxRecDepth 50000 in
theorem kf_X5_59 : Cond.fieldLink RX5 59 (TX4 4).1 (TX4 4).2.1 (TX4 4).2.2.1 ∈ lw_good := lw_good_of (List.mem_of_getElem? (i := 97) rfl) rfl
set_option maxRecDepth 50000 in
theorem kf_X1_54 : Cond.fieldLink RX1 54 (TX4 4).1 (TX4 4).2.1 (TX4 4).2.2.1 ∈ lw_good := lw_good_of (List.mem_of_getElem? (i := 98) rfl) rfl
set_option maxRecDepth 50000 in
theorem kf_X3_45 : Cond.fieldLink RX3 45 (TX3 0).1 (TX3 0).2.1 (TX3 0).2.2.1 ∈ lw_good := lw_good_of (List.mem_of_getElem? (i := 117) rfl) rfl
set_option maxRecDepth 50000 in
theorem kf_X3_9 : Cond.fieldLink RX3 9 (TX3 1).1 (TX3 1).2.1 (TX3 1).2.2.1 ∈ lw_good := lw_good_of (List.mem_of_getElem? (i := 118) rfl) rfl
set_option maxRecDepth 50000 in
theorem kf_X5_83 : Cond.fieldLink RX5 83 (TX3 1).1 (TX3 1).2.1 (TX3 1).2.2.1 ∈ lw_good := lw_good_of (List.mem_of_getElem? (i := 119) rfl) rfl
set_option maxRecDepth 50000 in
theorem kf_X3_15 : Cond.fieldLink RX3 15 (TX3 2).1 (TX3 2).2.1 (TX3 2).2.2.1 ∈ lw_good := lw_good_of (List.mem_of_getElem? (i := 120) rfl) rfl
set_option maxRecDepth 50000 in
theorem kf_X3_18 : Cond.fieldLink RX3 18 (TX3 3).1 (TX3 3).2.1 (TX3 3).2.2.1 ∈ lw_good := lw_good_of (List.mem_of_getElem? (i := 121) rfl) rfl
set_option maxRecDepth 50000 in
theorem kf_X5_96 : Cond.fieldLink RX5 96 (TX3 3).1 (TX3 3).2.1 (TX3 3).2.2.1 ∈ lw_good := lw_good_of (List.mem_of_getElem? (i := 122) rfl) rfl
set_option maxRecDepth 50000 in
theorem kf_X3_21 : Cond.fieldLink RX3 21 (TX3 4).1 (TX3 4).2.1 (TX3 4).2.2.1 ∈ lw_good := lw_good_of (List.mem_of_getElem? (i := 123) rfl) rfl
set_option maxRecDepth 50000 in
theorem kf_X3_24 : Cond.fieldLink RX3 24 (TX3 5).1 (TX3 5).2.1 (TX3 5).2.2.1 ∈ lw_good := lw_good_of (List.mem_of_getElem? (i := 124) rfl) rfl
set_option maxRecDepth 50000 in
theorem kf_X3_27 : Cond.fieldLink RX3 27 (TX3 6).1 (TX3 6).2.1 (TX3 6).2.2.1 ∈ lw_good := lw_good_of (List.mem_of_getElem? (i := 125) rfl) rfl
set_option maxRecDepth 50000 in
theorem kf_X5_99 : Cond.fieldLink RX5 99 (TX3 6).1 (TX3 6).2.1 (TX3 6).2.2.1 ∈ lw_good := lw_good_of (List.mem_of_getElem? (i := 126) rfl) rfl
set_option maxRecDepth 50000 in
theorem kf_X3_30 : Cond.fieldLink RX3 30 (TX3 7).1 (TX3 7).2.1 (TX3 7).2.2.1 ∈ lw_good := lw_good_of (List.mem_of_getElem? (i := 127) rfl) rfl
set_option maxRecDepth 50000 in
theorem kf_X3_33 : Cond.fieldLink RX3 33 (TX3 8).1 (TX3 8).2.1 (TX3 8).2.2.1 ∈ lw_good := lw_good_of (List.mem_of_getElem? (i := 128) rfl) rfl
set_option maxRecDepth 50000 in
theorem kf_X3_36 : Cond.fieldLink RX3 36 (TX3 9).1 (TX3 9).2.1 (TX3 9).2.2.1 ∈ lw_good := lw_good_of (List.mem_of_getElem? (i := 129) rfl) rfl
set_option maxRecDepth 50000 in
theorem kf_X3_39 : Cond.fieldLink RX3 39 (TX3 10).1 (TX3 10).2.1 (TX3 10).2.2.1 ∈ lw_good := lw_good_of (List.mem_of_getElem? (i := 130) rfl) rfl
set_option maxRecDepth 50000 in
theorem kf_X3_42 : Cond.fieldLink RX3 42 (TX3 11).1 (TX3 11).2.1 (TX3 11).2.2.1 ∈ lw_good := lw_good_of (List.mem_of_getElem? (i := 131) rfl) rfl
set_option maxRecDepth 50000 in
theorem kf_X3_105 : Cond.fieldLink RX3 105 (TX3 12).1 (TX3 12).2.1 (TX3 12).2.2.1 ∈ lw_good := lw_good_of (List.mem_of_getElem? (i := 132) rfl) rfl
set_option maxRecDepth 50000 in
theorem kf_X3_101 : Cond.fieldLink RX3 101 (TX3 13).1 (TX3 13).2.1 (TX3 13).2.2.1 ∈ lw_good := lw_good_of (List.mem_of_getElem? (i := 133) rfl) rfl
set_option maxRecDepth 50000 in
theorem kf_X3_62 : Cond.fieldLink RX3 62 (TX3 14).1 (TX3 14).2.1 (TX3 14).2.2.1 ∈ lw_good := lw_good_of (List.mem_of_getElem? (i := 134) rfl) rfl
set_option maxRecDepth 50000 in
theorem kf_X5_80 : Cond.fieldLink RX5 80 (TX3 14).1 (TX3 14).2.1 (TX3 14).2.2.1 ∈ lw_good := lw_good_of (List.mem_of_getElem? (i := 135) rfl) rfl
set_option maxRecDepth 50000 in
theorem kf_X3_65 : Cond.fieldLink RX3 65 (TX3 15).1 (TX3 15).2.1 (TX3 15).2.2.1 ∈ lw_good := lw_good_of (List.mem_of_getElem? (i := 136) rfl) rfl
set_option maxRecDepth 50000 in
theorem kf_X5_93 : Cond.fieldLink RX5 93 (TX3 15).1 (TX3 15).2.1 (TX3 15).2.2.1 ∈ lw_good := lw_good_of (List.mem_of_getElem? (i := 137) rfl) rfl
set_option maxRecDepth 50000 in
theorem kf_X2_21 : Cond.fieldLink RX2 21 (TX2 0).1 (TX2 0).2.1 (TX2 0).2.2.1 ∈ lw_good := lw_good_of (List.mem_of_getElem? (i := 177) rfl) rfl
set_option maxRecDepth 50000 in
theorem kf_X2_9 : Cond.fieldLink RX2 9 (TX2 1).1 (TX2 1).2.1 (TX2 1).2.2.1 ∈ lw_good := lw_good_of (List.mem_of_getElem? (i := 178) rfl) rfl
set_option maxRecDepth 50000 in
theorem kf_X5_122 : Cond.fieldLink RX5 122 (TX2 1).1 (TX2 1).2.1 (TX2 1).2.2.1 ∈ lw_good := lw_good_of (List.mem_of_getElem? (i := 179) rfl) rfl
set_option maxRecDepth 50000 in
theorem kf_X2_15 : Cond.fieldLink RX2 15 (TX2 2).1 (TX2 2).2.1 (TX2 2).2.2.1 ∈ lw_good := lw_good_of (List.mem_of_getElem? (i := 180) rfl) rfl
set_option maxRecDepth 50000 in
theorem kf_X0_52 : Cond.fieldLink RX0 52 (TX2 2).1 (TX2 2).2.1 (TX2 2).2.2.1 ∈ lw_good := lw_good_of (List.mem_of_getElem? (i := 181) rfl) rfl
set_option maxRecDepth 50000 in
theorem kf_X5_121 : Cond.fieldLink RX5 121 (TX2 2).1 (TX2 2).2.1 (TX2 2).2.2.1 ∈ lw_good := lw_good_of (List.mem_of_getElem? (i := 182) rfl) rfl
set_option maxRecDepth 50000 in
theorem kf_X2_18 : Cond.fieldLink RX2 18 (TX2 3).1 (TX2 3).2.1 (TX2 3).2.2.1 ∈ lw_good := lw_good_of (List.mem_of_getElem? (i := 183) rfl) rfl
set_option maxRecDepth 50000 in
theorem kf_X0_55 : Cond.fieldLink RX0 55 (TX2 3).1 (TX2 3).2.1 (TX2 3).2.2.1 ∈ lw_good := lw_good_of (List.mem_of_getElem? (i := 184) rfl) rfl
set_option maxRecDepth 50000 in
theorem kf_X2_25 : Cond.fieldLink RX2 25 (TX2 4).1 (TX2 4).2.1 (TX2 4).2.2.1 ∈ lw_good := lw_good_of (List.mem_of_getElem? (i := 185) rfl) rfl
set_option maxRecDepth 50000 in
theorem kf_X0_22 : Cond.fieldLink RX0 22 (TX2 4).1 (TX2 4).2.1 (TX2 4).2.2.1 ∈ lw_good := lw_good_of (List.mem_of_getElem? (i := 186) rfl) rfl
set_option maxRecDepth 50000 in
theorem kf_X0_18 : Cond.fieldLink RX0 18 (TX0 0).1 (TX0 0).2.1 (TX0 0).2.2.1 ∈ lw_good := lw_good_of (List.mem_of_getElem? (i := 204) rfl) rfl
set_option maxRecDepth 50000 in
theorem kf_X0_9 : Cond.fieldLink RX0 9 (TX0 1).1 (TX0 1).2.1 (TX0 1).2.2.1 ∈ lw_good := lw_good_of (List.mem_of_getElem? (i := 205) rfl) rfl
set_option maxRecDepth 50000 in
theorem kf_X5_149 : Cond.fieldLink RX5 149 (TX0 1).1 (TX0 1).2.1 (TX0 1).2.2.1 ∈ lw_good := lw_good_of (List.mem_of_getElem? (i := 206) rfl) rfl
set_option maxRecDepth 50000 in
theorem kf_X0_15 : Cond.fieldLink RX0 15 (TX0 2).1 (TX0 2).2.1 (TX0 2).2.2.1 ∈ lw_good := lw_good_of (List.mem_of_getElem? (i := 207) rfl) rfl
set_option maxRecDepth 50000 in
theorem kf_X1_30 : Cond.fieldLink RX1 30 (TX1 0).1 (TX1 0).2.1 (TX1 0).2.2.1 ∈ lw_good := lw_good_of (List.mem_of_getElem? (i := 221) rfl) rfl
set_option maxRecDepth 50000 in
theorem kf_X1_9 : Cond.fieldLink RX1 9 (TX1 1).1 (TX1 1).2.1 (TX1 1).2.2.1 ∈ lw_good := lw_good_of (List.mem_of_getElem? (i := 222) rfl) rfl
set_option maxRecDepth 50000 in
theorem kf_X5_181 : Cond.fieldLink RX5 181 (TX1 1).1 (TX1 1).2.1 (TX1 1).2.2.1 ∈ lw_good := lw_good_of (List.mem_of_getElem? (i := 223) rfl) rfl
set_option maxRecDepth 50000 in
theorem kf_X1_15 : Cond.fieldLink RX1 15 (TX1 2).1 (TX1 2).2.1 (TX1 2).2.2.1 ∈ lw_good := lw_good_of (List.mem_of_getElem? (i := 224) rfl) rfl
set_option maxRecDepth 50000 in
theorem kf_X1_18 : Cond.fieldLink RX1 18 (TX1 3).1 (TX1 3).2.1 (TX1 3).2.2.1 ∈ lw_good := lw_good_of (List.mem_of_getElem? (i := 225) rfl) rfl
set_option maxRecDepth 50000 in
theorem kf_X1_21 : Cond.fieldLink RX1 21 (TX1 4).1 (TX1 4).2.1 (TX1 4).2.2.1 ∈ lw_good := lw_good_of (List.mem_of_getElem? (i := 226) rfl) rfl
set_option maxRecDepth 50000 in
theorem kf_X1_24 : Cond.fieldLink RX1 24 (TX1 5).1 (TX1 5).2.1 (TX1 5).2.2.1 ∈ lw_good := lw_good_of (List.mem_of_getElem? (i := 227) rfl) rfl
set_option maxRecDepth 50000 in
theorem kf_X1_73 : Cond.fieldLink RX1 73 (TX1 6).1 (TX1 6).2.1 (TX1 6).2.2.1 ∈ lw_good := lw_good_of (List.mem_of_getElem? (i := 228) rfl) rfl
set_option maxRecDepth 50000 in
theorem kf_X1_27 : Cond.fieldLink RX1 27 (TX1 7).1 (TX1 7).2.1 (TX1 7).2.2.1 ∈ lw_good := lw_good_of (List.mem_of_getElem? (i := 229) rfl) rfl
set_option maxRecDepth 50000 in
theorem kf_X1_34 : Cond.fieldLink RX1 34 (TX1 8).1 (TX1 8).2.1 (TX1 8).2.2.1 ∈ lw_good := lw_good_of (List.mem_of_getElem? (i := 230) rfl) rfl
set_option maxRecDepth 50000 in
theorem kf_X1_38 : Cond.fieldLink RX1 38 (TX1 9).1 (TX1 9).2.1 (TX1 9).2.2.1 ∈ lw_good := lw_good_of (List.mem_of_getElem? (i := 231) rfl) rfl
set_option maxRecDepth 50000 in
theorem kf_X4_28 : Cond.fieldLink RX4 28 "PlaceRectangles$Stock" "SIDES_OF_TURNS" "[I" ∈ lw_good := lw_good_of (List.mem_of_getElem? (i := 285) rfl) rfl
set_option maxRecDepth 50000 in
theorem kf_X5_12 : Cond.fieldLink RX5 12 (TX5 0).1 (TX5 0).2.1 (TX5 0).2.2.1 ∈ lw_good := lw_good_of (List.mem_of_getElem? (i := 299) rfl) rfl
set_option maxRecDepth 50000 in
theorem kf_X5_21 : Cond.fieldLink RX5 21 (TX5 1).1 (TX5 1).2.1 (TX5 1).2.2.1 ∈ lw_good := lw_good_of (List.mem_of_getElem? (i := 300) rfl) rfl
set_option maxRecDepth 50000 in
theorem kf_X5_28 : Cond.fieldLink RX5 28 (TX5 2).1 (TX5 2).2.1 (TX5 2).2.2.1 ∈ lw_good := lw_good_of (List.mem_of_getElem? (i := 301) rfl) rfl
set_option maxRecDepth 50000 in
theorem kf_X5_37 : Cond.fieldLink RX5 37 (TX5 3).1 (TX5 3).2.1 (TX5 3).2.2.1 ∈ lw_good := lw_good_of (List.mem_of_getElem? (i := 302) rfl) rfl
set_option maxRecDepth 50000 in
theorem kf_X5_44 : Cond.fieldLink RX5 44 (TX5 4).1 (TX5 4).2.1 (TX5 4).2.2.1 ∈ lw_good := lw_good_of (List.mem_of_getElem? (i := 303) rfl) rfl
set_option maxRecDepth 50000 in
theorem kf_X6_7 : Cond.fieldLink RX6 7 (TX6 0).1 (TX6 0).2.1 (TX6 0).2.2.1 ∈ lw_good := lw_good_of (List.mem_of_getElem? (i := 713) rfl) rfl
set_option maxRecDepth 50000 in
theorem kf_X6_81 : Cond.fieldLink RX6 81 (TX6 1).1 (TX6 1).2.1 (TX6 1).2.2.1 ∈ lw_good := lw_good_of (List.mem_of_getElem? (i := 714) rfl) rfl
set_option maxRecDepth 50000 in
theorem kf_X6_13 : Cond.fieldLink RX6 13 (TX6 2).1 (TX6 2).2.1 (TX6 2).2.2.1 ∈ lw_good := lw_good_of (List.mem_of_getElem? (i := 715) rfl) rfl
set_option maxRecDepth 50000 in
theorem kf_X6_16 : Cond.fieldLink RX6 16 (TX6 3).1 (TX6 3).2.1 (TX6 3).2.2.1 ∈ lw_good := lw_good_of (List.mem_of_getElem? (i := 716) rfl) rfl
set_option maxRecDepth 50000 in
theorem kf_X6_19 : Cond.fieldLink RX6 19 (TX6 4).1 (TX6 4).2.1 (TX6 4).2.2.1 ∈ lw_good := lw_good_of (List.mem_of_getElem? (i := 717) rfl) rfl
set_option maxRecDepth 50000 in
theorem kf_X6_22 : Cond.fieldLink RX6 22 (TX6 5).1 (TX6 5).2.1 (TX6 5).2.2.1 ∈ lw_good := lw_good_of (List.mem_of_getElem? (i := 718) rfl) rfl
set_option maxRecDepth 50000 in
theorem kf_X6_25 : Cond.fieldLink RX6 25 (TX6 6).1 (TX6 6).2.1 (TX6 6).2.2.1 ∈ lw_good := lw_good_of (List.mem_of_getElem? (i := 719) rfl) rfl
set_option maxRecDepth 50000 in
theorem kf_X6_85 : Cond.fieldLink RX6 85 (TX6 7).1 (TX6 7).2.1 (TX6 7).2.2.1 ∈ lw_good := lw_good_of (List.mem_of_getElem? (i := 720) rfl) rfl
set_option maxRecDepth 50000 in
theorem kf_X6_88 : Cond.fieldLink RX6 88 (TX6 8).1 (TX6 8).2.1 (TX6 8).2.2.1 ∈ lw_good := lw_good_of (List.mem_of_getElem? (i := 721) rfl) rfl
set_option maxRecDepth 50000 in
theorem kf_X6_91 : Cond.fieldLink RX6 91 (TX6 9).1 (TX6 9).2.1 (TX6 9).2.2.1 ∈ lw_good := lw_good_of (List.mem_of_getElem? (i := 722) rfl) rfl
set_option maxRecDepth 50000 in
theorem kf_X6_28 : Cond.fieldLink RX6 28 (TX6 10).1 (TX6 10).2.1 (TX6 10).2.2.1 ∈ lw_good := lw_good_of (List.mem_of_getElem? (i := 723) rfl) rfl
set_option maxRecDepth 50000 in
theorem kf_X6_31 : Cond.fieldLink RX6 31 (TX6 11).1 (TX6 11).2.1 (TX6 11).2.2.1 ∈ lw_good := lw_good_of (List.mem_of_getElem? (i := 724) rfl) rfl
set_option maxRecDepth 50000 in
theorem kf_X6_34 : Cond.fieldLink RX6 34 (TX6 12).1 (TX6 12).2.1 (TX6 12).2.2.1 ∈ lw_good := lw_good_of (List.mem_of_getElem? (i := 725) rfl) rfl
set_option maxRecDepth 50000 in
theorem kf_X6_37 : Cond.fieldLink RX6 37 (TX6 13).1 (TX6 13).2.1 (TX6 13).2.2.1 ∈ lw_good := lw_good_of (List.mem_of_getElem? (i := 726) rfl) rfl
set_option maxRecDepth 50000 in
theorem kf_X6_40 : Cond.fieldLink RX6 40 (TX6 14).1 (TX6 14).2.1 (TX6 14).2.2.1 ∈ lw_good := lw_good_of (List.mem_of_getElem? (i := 727) rfl) rfl
set_option maxRecDepth 50000 in
theorem kf_X6_44 : Cond.fieldLink RX6 44 (TX6 15).1 (TX6 15).2.1 (TX6 15).2.2.1 ∈ lw_good := lw_good_of (List.mem_of_getElem? (i := 728) rfl) rfl
set_option maxRecDepth 50000 in
theorem kf_X6_47 : Cond.fieldLink RX6 47 (TX6 16).1 (TX6 16).2.1 (TX6 16).2.2.1 ∈ lw_good := lw_good_of (List.mem_of_getElem? (i := 729) rfl) rfl
set_option maxRecDepth 50000 in
theorem kf_X6_50 : Cond.fieldLink RX6 50 (TX6 17).1 (TX6 17).2.1 (TX6 17).2.2.1 ∈ lw_good := lw_good_of (List.mem_of_getElem? (i := 730) rfl) rfl
set_option maxRecDepth 50000 in
theorem kf_X6_53 : Cond.fieldLink RX6 53 (TX6 18).1 (TX6 18).2.1 (TX6 18).2.2.1 ∈ lw_good := lw_good_of (List.mem_of_getElem? (i := 731) rfl) rfl
set_option maxRecDepth 50000 in
theorem kf_X6_56 : Cond.fieldLink RX6 56 (TX6 19).1 (TX6 19).2.1 (TX6 19).2.2.1 ∈ lw_good := lw_good_of (List.mem_of_getElem? (i := 732) rfl) rfl
set_option maxRecDepth 50000 in
theorem kf_X6_59 : Cond.fieldLink RX6 59 (TX6 20).1 (TX6 20).2.1 (TX6 20).2.2.1 ∈ lw_good := lw_good_of (List.mem_of_getElem? (i := 733) rfl) rfl
set_option maxRecDepth 50000 in
theorem kf_X6_174 : Cond.fieldLink RX6 174 (TX6 21).1 (TX6 21).2.1 (TX6 21).2.2.1 ∈ lw_good := lw_good_of (List.mem_of_getElem? (i := 734) rfl) rfl
set_option maxRecDepth 50000 in
theorem kf_X6_62 : Cond.fieldLink RX6 62 (TX6 22).1 (TX6 22).2.1 (TX6 22).2.2.1 ∈ lw_good := lw_good_of (List.mem_of_getElem? (i := 735) rfl) rfl
set_option maxRecDepth 50000 in
theorem kf_X6_65 : Cond.fieldLink RX6 65 (TX6 23).1 (TX6 23).2.1 (TX6 23).2.2.1 ∈ lw_good := lw_good_of (List.mem_of_getElem? (i := 736) rfl) rfl
set_option maxRecDepth 50000 in
theorem kf_X6_68 : Cond.fieldLink RX6 68 (TX6 24).1 (TX6 24).2.1 (TX6 24).2.2.1 ∈ lw_good := lw_good_of (List.mem_of_getElem? (i := 737) rfl) rfl
set_option maxRecDepth 50000 in
theorem kf_X6_114 : Cond.fieldLink RX6 114 (TX6 25).1 (TX6 25).2.1 (TX6 25).2.2.1 ∈ lw_good := lw_good_of (List.mem_of_getElem? (i := 738) rfl) rfl
set_option maxRecDepth 50000 in
theorem kf_X6_71 : Cond.fieldLink RX6 71 (TX6 26).1 (TX6 26).2.1 (TX6 26).2.2.1 ∈ lw_good := lw_good_of (List.mem_of_getElem? (i := 739) rfl) rfl
set_option maxRecDepth 50000 in
theorem kk_X3_104 : Cond.constant RX3 104 (iI (1000000)) ∈ lw_good := lw_good_of (List.mem_of_getElem? (i := 354) rfl) rfl
set_option maxRecDepth 50000 in
theorem kk_J6_265 : Cond.constant RJ6 265 (iI (1431655765)) ∈ lw_good := lw_good_of (List.mem_of_getElem? (i := 362) rfl) rfl
set_option maxRecDepth 50000 in
theorem kk_J6_266 : Cond.constant RJ6 266 (iI (858993459)) ∈ lw_good := lw_good_of (List.mem_of_getElem? (i := 363) rfl) rfl
set_option maxRecDepth 50000 in
theorem kk_J6_267 : Cond.constant RJ6 267 (iI (252645135)) ∈ lw_good := lw_good_of (List.mem_of_getElem? (i := 364) rfl) rfl
set_option maxRecDepth 50000 in
theorem kk_X5_160 : Cond.constantLong RX5 160 (iL (-1)) ∈ lw_good := lw_good_of (List.mem_of_getElem? (i := 584) rfl) rfl
set_option maxRecDepth 50000 in
theorem kk_X6_198 : Cond.constantLong RX6 198 (iL (-1)) ∈ lw_good := lw_good_of (List.mem_of_getElem? (i := 946) rfl) rfl
