/-! the class works a round out -/
section WO
variable {x N : Nat} {z : Nat × Nat} {h : XH} {C M : Nat → Nat → Int32} {P Q : Nat → Nat → Int64}
theorem c_wo (hs : Shp x h) {T v d o : Nat → Nat} {m : Nat} (hm : m ≤ 6) (ho : ∀ k, k < m → o k < m) (hS : Sd d o m) (bT : ∀ l, l < 3 → T l ≤ 99999) (bv : ∀ l, l < 3 → v l ≤ 9) (bd : ∀ k, k < m → d k ≤ 3) (hG : Gv v d o m C) (e15 : ∀ l, l < 3 → C 15 l = iN (T l)) (hN : 10000 < N) : ∃ D b, fX7_workOut N z [.ref (x + 13)] (hh x h C M P Q) = some ((), hh x h D M P Q) ∧ (∀ j l, j ≠ 16 → j ≠ 20 → j ≠ 19 → (j ≠ 13 ∨ l ≠ 4) → D j l = C j l) ∧ (∀ i, b i < 3) ∧ (∀ i, i < m → D 16 i = iN (b i)) ∧ D 13 4 = iN (sm T v d o m b) ∧ ∀ g, (∀ i, g i < 3) → wl T v d o m b g := by
  have y0 : (1000000 : Int32) = iN 1000000 := rfl
  have fr : ∀ j l, j ≠ 16 → j ≠ 20 → j ≠ 19 → (j ≠ 13 ∨ l ≠ 4) → up2 (bgC C 3) 13 4 1000000 j l = C j l := fun j l _ _ h3 h4 => by
    rw [u2_n _ _ h4, bgC_n _ _ h3]
  obtain ⟨D, B, r1, r2, r3, r4, r5, r6, r7⟩ := c_gv (N := N) (z := z) (M := M) (P := P) (Q := Q) hs (T := T) hm ho hS bT bv bd hN m 0 (by omega) 8 (by omega) (up2 (bgC C 3) 13 4 1000000) (fun _ => 0) none (hG.cg fr) (fun _ => (by decide : (0 : Nat) < 3)) (fun j hj => absurd hj (by omega)) (fun l hl => by
    rw [u2_n _ _ (by omega)]
    unfold bgC
    rw [if_pos ⟨rfl, hl⟩]
    exact e15 l hl) (by
    show up2 (bgC C 3) 13 4 1000000 13 4 = iN 1000000
    rw [u2_s]
    rfl)
  have r1 : fX7_give N z 8 [.ref (x + 13), .int 0, .int 0] (hh x h (up2 (bgC C 3) 13 4 1000000) M P Q) = some ((), hh x h D M P Q) := r1
  obtain ⟨b, e, _⟩ := r7 (fun _ => 0) (fun _ => (by decide : (0 : Nat) < 3)) (fun j hj => absurd hj (by omega))
  subst e
  refine ⟨D, b, ?_, fun j l h1 h2 h3 h4 => (r2 j l h1 h2 h3 h4).trans (fr j l h1 h2 h3 h4), r5.1, r5.2.1, r5.2.2, fun g hg => ?_⟩
  · simp -implicitDefEqProofs (disch := first | omega | decide) only [fX7_workOut, mB_s, lay_n, lay_i, lay_r, lay_0, lay_l, List.length_cons, List.length_nil, List.cons_append, List.nil_append, sB, kS_l, kS_r, sSeq_a, sNil_a, kSetI_p, sSetI_a, kSetJ_p, sSetJ_a, kSetA_p, sSetA_a, kInc_p, sInc_a, kPut2_p, kPut1_p, sPut_a, kPutC2_p, kPutC1_p, sPutC_a, kAst3_p, kAst2_p, kAst1_p, sAst_a, kAstC3_p, kAstC2_p, kAstC1_p, sAstC_a, kAstZ3_p, kAstZ2_p, kAstZ1_p, sAstZ_a, kAstO3_p, kAstO2_p, kAstO1_p, sAstO_a, kAstA3_p, kAstA2_p, kAstA1_p, sAstA_a, kX_p, sX_a, kIf_p, sIf_a, kRet_p, sRet_a, kRetZ_p, sRetZ_a, sRetV_a, kSw_p, sSw_a, kPutZ2_p, kPutZ1_p, sPutZ_a, eI_a, eJ_a, eN_a, kL_p, eLI_a, eLJ_a, eLA_a, kT2_p, kT_p, eT_a, kP2_p, kP_p, eP_a, kU_p, eU_a, kGet_p, eGet_a, kAld2_p, kAld1_p, eAld_a, kLen_p, eLen_a, kEIf_p, eIf_a, kCast_p, eCast_a, aN_a, kC2_p, kC_p, aC_a, kCS_p, eCallS_a, kCV2_p, kCV1_p, eCallV_a, kN2_p, kN1_p, eNew_a, kNA_p, eNewA_a, kSt3_p, kSt2_p, kSt1_p, eSt_a, kSA2_p, kSA1_p, eSetA_a, eZ_a, eMi_a, kCl_p, eCls_a, kAnd_p, cAnd_a, kOr_p, cOr_a, cNot_a, cZ_a, cNul_a, cNN_a, cAeq_a, cAne_a, kObj_p, sObj_a, kSup2_p, kSup1_p, sSup_a, kCp5_p, kCp4_p, kCp3_p, kCp2_p, kCp1_p, sCpI_a, qEq, qNe, qLt, qGe, qGt, qLe, rGt_s, rLt_s, stL, stL2, kill, List.getElem?_cons_zero, List.getElem?_cons_succ, gI_i, gJ_l, gR_r, gR_0, rf_s, rf_n, Option.bind_some, Option.bind_none, mR_r, cat_i, cat_r, cat_0, cat_d, cat_l, ↓reduceIte, reduceCtorEq, Nat.reduceSub, Nat.reduceAdd, Nat.reduceMul, Nat.reduceLT, Nat.reduceLeDiff, Nat.reduceEqDiff, and_true, true_and, and_false, false_and, or_false, false_or, or_true, true_or, not_true_eq_false, not_false_eq_true, decide_true, decide_false, eq_self, Bool.false_eq_true, decide_eq_true_eq, Bool.and_eq_true, Bool.or_eq_true, Bool.not_eq_true', decide_eq_false_iff_not, decide_not, Bool.not_true, Bool.not_false, Bool.and_true, Bool.true_and, Bool.and_false, Bool.false_and, Bool.or_true, Bool.true_or, Bool.or_false, Bool.false_or, Bool.and_self, Bool.or_self, Bool.true_eq_false, Bool.and_eq_false_imp, Bool.or_eq_false_iff, jI, jJ, jA, o_iadd, o_isub, o_imul, o_iand, o_ior, o_ishl, o_ishr, o_ladd, o_lsub, o_lmul, o_i2l, o_l2i, o_i2b, o_ineg, if_bI, bI_z, bI_01, ifs, if_and, if_or, if_10, bI_zn, bI_nz, ifl, ifcons, ifint, iflong, ite_self, if_inc, Bool.decide_eq_true, Bool.decide_and, Bool.decide_or, xA_hh, xT_hh, xN_hh, xS_hh, xI_0, xI_c, xI_m, xI_o, xJ_0, xJ_m, sI_0, sI_c, sI_m, sI_o, sJ_0, sJ_m, sA_hh, u2_s, u2_n, xT_sI, xT_sA, xN_sI, xN_sA, xA_sI, xI_sA, xI_sI, xA_sA, xN_nw, xT_nw, xT_nn, xI_nw, xI_nn, xA_nw, xA_nn, iN_nat, l_nat, l_lt_T, l_lt_F, l_le_T, l_le_F, l_eq_F, iN_lt, iN_le, iN_eq, iN_lt_l, iN_le_l, iN_eq_l, l_lt_iN, l_le_iN, l_eq_iN, iN_eq_n, n_eq_iN, iN_le_n, iN_lt_n, iN_add, iN_mul, iN_add_l, l_add_iN, l_mul_iN, iN_sub, iN_sub_l, sub1_le, le_F, lt_T, lt_F, le_T, eq_F, st_13 hs, c_bg hs hN, r1, st_13 hs]
  · obtain ⟨b2, e2, w2⟩ := r7 g hg (fun j hj => absurd hj (by omega))
    injection e2 with e2
    subst e2
    exact w2
end WO
