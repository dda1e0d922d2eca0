/-! THE LAW -/
section LW
variable {E : lEnv}
theorem L_next (C : LX E) {i : Int} {S M : jMem} (k : LJ E 18 (lvL E (i + 6)) [] S M) : LJ E 816 (lvL E i) [] S M := fun H locs ls hl hP hM hS => by
  refine lv_iinc (v := iI (i + 6)) (lv' := [(3, .int (iI (i + 6))), (0, .ref (eb E)), (1, .ref (jad (eG E) 0)), (2, .ref (jad (eK E) 0))]) C.1.1 C.1.2.1 dL_law_816 hl (k := 3) rfl (iI_add i 6) (by decide) rfl (fun ls hl => ?_)
  refine lv_goto (tgt := 18) C.1.1 C.1.2.1 dL_law_819 (by decide) ?_
  exact k H locs ls (lv_sub hl [1, 2, 3, 0] rfl) hP hM hS
set_option maxHeartbeats 4000000 in
theorem law_loop (C : LX E) : ∀ (n : Nat) (i : Int) (S M : jMem), 0 ≤ i → i ≤ (eL E : Int) → (eL E : Int) + 1 ≤ i + n → REL S M → LJ E 18 (lvL E i) [] S M := by
  intro n
  induction n with
  | zero =>
    intro i S M h0 h1 h2
    exact absurd h2 (by omega)
  | succ n ih =>
    intro i S M h0 h1 h2 hR
    have hL := C.2.1
    refine L_iload_n C 3 dL_law_18 rfl ?_
    refine L_aload_n C 0 dL_law_19 rfl ?_
    intro H locs ls hl hP hM hS
    refine va_slen C.1.1 C.1.2.1 C.1.2.2.2.2.2.2.1 C.1.2.2.2.2.2.2.2.1 C.hbA hS dL_law_20 ?_
    rw [show Int32.ofNat (eL E) = iI (eL E : Int) from Int32.ofInt_eq_ofNat.symm]
    refine lv_bipush (v := iI 6) C.1.1 C.1.2.1 dL_law_21 (by decide) ?_
    refine lv_isub C.1.1 C.1.2.1 dL_law_23 ?_
    rw [iI_sub]
    refine lv_icmp_gt (tgt := 822) C.1.1 C.1.2.1 dL_law_24 (by decide) (fun c1 => ?_) (fun c1 => ?_)
    · refine lv_iconst (v := 1) C.1.1 C.1.2.1 dL_law_822 (by decide) ?_
      refine va_forget (fun q hq => hS.2.2 q hq) ?_
      exact lw_ret C.1.1 C.1.2.1 C.1.2.2.1 C.1.2.2.2.2.2.2.2.2.1 dL_law_823
    · rw [iI_lt ⟨by omega, by omega⟩ ⟨by omega, by omega⟩] at c1
      have h6 : i + 6 ≤ (eL E : Int) := by omega
      have kk : ∀ S' M', REL S' M' → LJ E 816 (lvL E i) [] S' M' := fun S' M' hR' => L_next C (ih (i + 6) S' M' (by omega) h6 (by omega) hR')
      have go : LJ E 27 (lvL E i) [] S M := by
        refine L_aload_n C 0 dL_law_27 rfl ?_
        refine L_iload_n C 3 dL_law_28 rfl ?_
        refine L_sld C h0 (by omega) dL_law_29 ?_
        intro H locs ls hl hP hM hS
        refine lv_bipush (v := iI 31) C.1.1 C.1.2.1 dL_law_30 (by decide) ?_
        refine lv_iand C.1.1 C.1.2.1 dL_law_32 ?_
        generalize (iI (xz E i) &&& iI 31) = x
        have hc : x.toInt < 0 ∨ 20 < x.toInt ∨ x.toInt = 0 ∨ x.toInt = 1 ∨ x.toInt = 2 ∨ x.toInt = 3 ∨ x.toInt = 4 ∨ x.toInt = 5 ∨ x.toInt = 6 ∨ x.toInt = 7 ∨ x.toInt = 8 ∨ x.toInt = 9 ∨ x.toInt = 10 ∨ x.toInt = 11 ∨ x.toInt = 12 ∨ x.toInt = 13 ∨ x.toInt = 14 ∨ x.toInt = 15 ∨ x.toInt = 16 ∨ x.toInt = 17 ∨ x.toInt = 18 ∨ x.toInt = 19 ∨ x.toInt = 20 := by omega
        rcases hc with h | h | h | h | h | h | h | h | h | h | h | h | h | h | h | h | h | h | h | h | h | h | h
        · exact lv_tableOut (tgt := 816) C.1.1 C.1.2.1 dL_law_33 (Or.inl h) (by decide) (kk S M hR H locs ls hl hP hM hS)
        · exact lv_tableOut (tgt := 816) C.1.1 C.1.2.1 dL_law_33 (Or.inr h) (by decide) (kk S M hR H locs ls hl hP hM hS)
        · exact lv_tableIn (off := 99) (tgt := 132) C.1.1 C.1.2.1 dL_law_33 (by omega) (by omega) (by rw [h]; rfl) (by decide) (law_bin C h0 h6 hR kk H locs ls hl hP hM hS)
        · exact lv_tableIn (off := 142) (tgt := 175) C.1.1 C.1.2.1 dL_law_33 (by omega) (by omega) (by rw [h]; rfl) (by decide) (law_box C h0 h6 hR kk H locs ls hl hP hM hS)
        · exact lv_tableIn (off := 185) (tgt := 218) C.1.1 C.1.2.1 dL_law_33 (by omega) (by omega) (by rw [h]; rfl) (by decide) (law_turns C h0 h6 hR kk H locs ls hl hP hM hS)
        · exact lv_tableIn (off := 218) (tgt := 251) C.1.1 C.1.2.1 dL_law_33 (by omega) (by omega) (by rw [h]; rfl) (by decide) (law_weight C h0 h6 hR kk H locs ls hl hP hM hS)
        · exact lv_tableIn (off := 251) (tgt := 284) C.1.1 C.1.2.1 dL_law_33 (by omega) (by omega) (by rw [h]; rfl) (by decide) (law_clear C h0 h6 hR kk H locs ls hl hP hM hS)
        · exact lv_tableIn (off := 264) (tgt := 297) C.1.1 C.1.2.1 dL_law_33 (by omega) (by omega) (by rw [h]; rfl) (by decide) (law_run C h0 h6 hR kk H locs ls hl hP hM hS)
        · exact lv_tableIn (off := 287) (tgt := 320) C.1.1 C.1.2.1 dL_law_33 (by omega) (by omega) (by rw [h]; rfl) (by decide) (law_told C h0 h6 hR kk H locs ls hl hP hM hS)
        · exact lv_tableIn (off := 320) (tgt := 353) C.1.1 C.1.2.1 dL_law_33 (by omega) (by omega) (by rw [h]; rfl) (by decide) (law_plan C h0 h6 hR kk H locs ls hl hP hM hS)
        · exact lv_tableIn (off := 333) (tgt := 366) C.1.1 C.1.2.1 dL_law_33 (by omega) (by omega) (by rw [h]; rfl) (by decide) (law_lay C h0 h6 hR kk H locs ls hl hP hM hS)
        · exact lv_tableIn (off := 396) (tgt := 429) C.1.1 C.1.2.1 dL_law_33 (by omega) (by omega) (by rw [h]; rfl) (by decide) (law_lift C h0 h6 hR kk H locs ls hl hP hM hS)
        · exact lv_tableIn (off := 419) (tgt := 452) C.1.1 C.1.2.1 dL_law_33 (by omega) (by omega) (by rw [h]; rfl) (by decide) (law_place C h0 h6 hR kk H locs ls hl hP hM hS)
        · exact lv_tableIn (off := 452) (tgt := 485) C.1.1 C.1.2.1 dL_law_33 (by omega) (by omega) (by rw [h]; rfl) (by decide) (law_overlaps C h0 h6 hR kk H locs ls hl hP hM hS)
        · exact lv_tableIn (off := 465) (tgt := 498) C.1.1 C.1.2.1 dL_law_33 (by omega) (by omega) (by rw [h]; rfl) (by decide) (law_relative C h0 h6 hR kk H locs ls hl hP hM hS)
        · exact lv_tableIn (off := 498) (tgt := 531) C.1.1 C.1.2.1 dL_law_33 (by omega) (by omega) (by rw [h]; rfl) (by decide) (law_support C h0 h6 hR kk H locs ls hl hP hM hS)
        · exact lv_tableIn (off := 521) (tgt := 554) C.1.1 C.1.2.1 dL_law_33 (by omega) (by omega) (by rw [h]; rfl) (by decide) (law_centre C h0 h6 hR kk H locs ls hl hP hM hS)
        · exact lv_tableIn (off := 554) (tgt := 587) C.1.1 C.1.2.1 dL_law_33 (by omega) (by omega) (by rw [h]; rfl) (by decide) (law_tree C h0 h6 hR kk H locs ls hl hP hM hS)
        · exact lv_tableIn (off := 567) (tgt := 600) C.1.1 C.1.2.1 dL_law_33 (by omega) (by omega) (by rw [h]; rfl) (by decide) (law_node C h0 h6 hR kk H locs ls hl hP hM hS)
        · exact lv_tableIn (off := 600) (tgt := 633) C.1.1 C.1.2.1 dL_law_33 (by omega) (by omega) (by rw [h]; rfl) (by decide) (law_dual C h0 h6 hR kk H locs ls hl hP hM hS)
        · exact lv_tableIn (off := 643) (tgt := 676) C.1.1 C.1.2.1 dL_law_33 (by omega) (by omega) (by rw [h]; rfl) (by decide) (law_need C h0 h6 hR kk H locs ls hl hP hM hS)
        · exact lv_tableIn (off := 697) (tgt := 730) C.1.1 C.1.2.1 dL_law_33 (by omega) (by omega) (by rw [h]; rfl) (by decide) (law_proof C h0 h6 hR kk H locs ls hl hP hM hS)
        · exact lv_tableIn (off := 720) (tgt := 753) C.1.1 C.1.2.1 dL_law_33 (by omega) (by omega) (by rw [h]; rfl) (by decide) (law_none C h0 h6 hR kk H locs ls hl hP hM hS)
      exact go H locs ls hl hP hM hS
end LW
