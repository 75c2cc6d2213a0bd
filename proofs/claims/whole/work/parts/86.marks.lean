/-! the class's row of marks, kept in order -/
section MK
variable {x N : Nat} {z : Nat × Nat} {h : XH} {C M : Nat → Nat → Int32} {P Q : Nat → Nat → Int64}
def Sl (C : Nat → Nat → Int32) (p k : Nat) (R : Nat → Nat) : Prop := C 9 1 = iN k ∧ (∀ i, i < k → C p i = iN (R i)) ∧ (∀ i, i < k → R i < 10000) ∧ ∀ i j, i < j → j < k → R i < R j
theorem c_il (hs : Shp x h) {p : Nat} (hp : p = 11 ∨ p = 12) (hA : xA h (x + 9) 2 = some (x + p)) {R : Nat → Nat} {k v : Nat} (hk : k < 300) (hv : v < 10000) (hS : Sl C p k R) : ∀ q K, q ≤ k → q < K → ∃ a, a ≤ q ∧ (∀ i, a ≤ i → i < q → v < R i) ∧ (a = 0 ∨ R (a - 1) ≤ v) ∧ sLoop (fX1_include_1c N z) (fX1_include_1b N z) K [.ref (x + 9), .int (iN v), .int (iN q), xD] (hh x h C M P Q) = some (.inl ([.ref (x + 9), .int (iN v), .int (iN a), xD], hh x h C M P Q))
  | 0, K, _, hK => by
    refine ⟨0, Nat.le_refl _, fun i h1 h2 => absurd h2 (by omega), Or.inl rfl, ?_⟩
    obtain ⟨K2, rfl⟩ : ∃ K2, K = K2 + 1 := ⟨K - 1, by omega⟩
    have hc : fX1_include_1c N z [.ref (x + 9), .int (iN v), .int (iN 0), xD] (hh x h C M P Q) = some (false, hh x h C M P Q) := by
      simp -implicitDefEqProofs (disch := first | omega | decide) only [fX1_include_1c, mB_s, lay_n, lay_i, lay_r, lay_0, lay_l, List.length_cons, List.length_nil, List.cons_append, List.nil_append, sB, kS_l, kS_r, sSeq_a, sNil_a, kSetI_p, sSetI_a, kSetJ_p, sSetJ_a, kSetA_p, sSetA_a, kInc_p, sInc_a, kPut2_p, kPut1_p, sPut_a, kPutC2_p, kPutC1_p, sPutC_a, kAst3_p, kAst2_p, kAst1_p, sAst_a, kAstC3_p, kAstC2_p, kAstC1_p, sAstC_a, kAstZ3_p, kAstZ2_p, kAstZ1_p, sAstZ_a, kAstO3_p, kAstO2_p, kAstO1_p, sAstO_a, kAstA3_p, kAstA2_p, kAstA1_p, sAstA_a, kX_p, sX_a, kIf_p, sIf_a, kRet_p, sRet_a, kRetZ_p, sRetZ_a, sRetV_a, kSw_p, sSw_a, kPutZ2_p, kPutZ1_p, sPutZ_a, eI_a, eJ_a, eN_a, kL_p, eLI_a, eLJ_a, eLA_a, kT2_p, kT_p, eT_a, kP2_p, kP_p, eP_a, kU_p, eU_a, kGet_p, eGet_a, kAld2_p, kAld1_p, eAld_a, kLen_p, eLen_a, kEIf_p, eIf_a, kCast_p, eCast_a, aN_a, kC2_p, kC_p, aC_a, kCS_p, eCallS_a, kCV2_p, kCV1_p, eCallV_a, kN2_p, kN1_p, eNew_a, kNA_p, eNewA_a, kSt3_p, kSt2_p, kSt1_p, eSt_a, kSA2_p, kSA1_p, eSetA_a, eZ_a, eMi_a, kCl_p, eCls_a, kAnd_p, cAnd_a, kOr_p, cOr_a, cNot_a, cZ_a, cNul_a, cNN_a, cAeq_a, cAne_a, kObj_p, sObj_a, kSup2_p, kSup1_p, sSup_a, kCp5_p, kCp4_p, kCp3_p, kCp2_p, kCp1_p, sCpI_a, qEq, qNe, qLt, qGe, qGt, qLe, rGt_s, rLt_s, stL, stL2, kill, List.getElem?_cons_zero, List.getElem?_cons_succ, gI_i, gJ_l, gR_r, gR_0, rf_s, rf_n, Option.bind_some, Option.bind_none, mR_r, cat_i, cat_r, cat_0, cat_d, cat_l, ↓reduceIte, reduceCtorEq, Nat.reduceSub, Nat.reduceAdd, Nat.reduceMul, Nat.reduceLT, Nat.reduceLeDiff, Nat.reduceEqDiff, and_true, true_and, and_false, false_and, or_false, false_or, or_true, true_or, not_true_eq_false, not_false_eq_true, decide_true, decide_false, eq_self, Bool.false_eq_true, decide_eq_true_eq, Bool.and_eq_true, Bool.or_eq_true, Bool.not_eq_true', decide_eq_false_iff_not, decide_not, Bool.not_true, Bool.not_false, Bool.and_true, Bool.true_and, Bool.and_false, Bool.false_and, Bool.or_true, Bool.true_or, Bool.or_false, Bool.false_or, Bool.and_self, Bool.or_self, Bool.true_eq_false, Bool.and_eq_false_imp, Bool.or_eq_false_iff, jI, jJ, jA, o_iadd, o_isub, o_imul, o_iand, o_ior, o_ishl, o_ishr, o_ladd, o_lsub, o_lmul, o_i2l, o_l2i, o_i2b, o_ineg, if_bI, bI_z, bI_01, ifs, if_and, if_or, if_10, bI_zn, bI_nz, ifl, ifcons, ifint, iflong, ite_self, if_inc, Bool.decide_eq_true, Bool.decide_and, Bool.decide_or, xA_hh, xT_hh, xN_hh, xS_hh, xI_0, xI_c, xI_m, xI_o, xJ_0, xJ_m, sI_0, sI_c, sI_m, sI_o, sJ_0, sJ_m, sA_hh, u2_s, u2_n, xT_sI, xT_sA, xN_sI, xN_sA, xA_sI, xI_sA, xI_sI, xA_sA, xN_nw, xT_nw, xT_nn, xI_nw, xI_nn, xA_nw, xA_nn, iN_nat, l_nat, l_lt_T, l_lt_F, l_le_T, l_le_F, l_eq_F, iN_lt, iN_le, iN_eq, iN_lt_l, iN_le_l, iN_eq_l, l_lt_iN, l_le_iN, l_eq_iN, iN_eq_n, n_eq_iN, iN_le_n, iN_lt_n, iN_add, iN_mul, iN_add_l, l_add_iN, l_mul_iN, iN_sub, iN_sub_l, sub1_le, le_F, lt_T, lt_F, le_T, eq_F]
    rw [sLoop_s, hc]
    rfl
  | q + 1, K, hq, hK => by
    obtain ⟨K2, rfl⟩ : ∃ K2, K = K2 + 1 := ⟨K - 1, by omega⟩
    have y1 := hS.2.1 q (by omega)
    have b1 := hS.2.2.1 q (by omega)
    have y3 := iN_pred q
    have tp : xT h (x + p) = (100, 300) := by
      rcases hp with e | e
      · subst e; exact st_11 hs
      · subst e; exact st_12 hs
    by_cases e : v < R q
    · obtain ⟨a, p1, p2, p3, p4⟩ := c_il hs hp hA hk hv hS q K2 (by omega) (by omega)
      refine ⟨a, by omega, fun i h1 h2 => ?_, p3, ?_⟩
      · by_cases e2 : i = q
        · subst e2; exact e
        · exact p2 i h1 (by omega)
      · have hc : fX1_include_1c N z [.ref (x + 9), .int (iN v), .int (iN (q + 1)), xD] (hh x h C M P Q) = some (true, hh x h C M P Q) := by
          simp -implicitDefEqProofs (disch := first | omega | decide) only [fX1_include_1c, mB_s, lay_n, lay_i, lay_r, lay_0, lay_l, List.length_cons, List.length_nil, List.cons_append, List.nil_append, sB, kS_l, kS_r, sSeq_a, sNil_a, kSetI_p, sSetI_a, kSetJ_p, sSetJ_a, kSetA_p, sSetA_a, kInc_p, sInc_a, kPut2_p, kPut1_p, sPut_a, kPutC2_p, kPutC1_p, sPutC_a, kAst3_p, kAst2_p, kAst1_p, sAst_a, kAstC3_p, kAstC2_p, kAstC1_p, sAstC_a, kAstZ3_p, kAstZ2_p, kAstZ1_p, sAstZ_a, kAstO3_p, kAstO2_p, kAstO1_p, sAstO_a, kAstA3_p, kAstA2_p, kAstA1_p, sAstA_a, kX_p, sX_a, kIf_p, sIf_a, kRet_p, sRet_a, kRetZ_p, sRetZ_a, sRetV_a, kSw_p, sSw_a, kPutZ2_p, kPutZ1_p, sPutZ_a, eI_a, eJ_a, eN_a, kL_p, eLI_a, eLJ_a, eLA_a, kT2_p, kT_p, eT_a, kP2_p, kP_p, eP_a, kU_p, eU_a, kGet_p, eGet_a, kAld2_p, kAld1_p, eAld_a, kLen_p, eLen_a, kEIf_p, eIf_a, kCast_p, eCast_a, aN_a, kC2_p, kC_p, aC_a, kCS_p, eCallS_a, kCV2_p, kCV1_p, eCallV_a, kN2_p, kN1_p, eNew_a, kNA_p, eNewA_a, kSt3_p, kSt2_p, kSt1_p, eSt_a, kSA2_p, kSA1_p, eSetA_a, eZ_a, eMi_a, kCl_p, eCls_a, kAnd_p, cAnd_a, kOr_p, cOr_a, cNot_a, cZ_a, cNul_a, cNN_a, cAeq_a, cAne_a, kObj_p, sObj_a, kSup2_p, kSup1_p, sSup_a, kCp5_p, kCp4_p, kCp3_p, kCp2_p, kCp1_p, sCpI_a, qEq, qNe, qLt, qGe, qGt, qLe, rGt_s, rLt_s, stL, stL2, kill, List.getElem?_cons_zero, List.getElem?_cons_succ, gI_i, gJ_l, gR_r, gR_0, rf_s, rf_n, Option.bind_some, Option.bind_none, mR_r, cat_i, cat_r, cat_0, cat_d, cat_l, ↓reduceIte, reduceCtorEq, Nat.reduceSub, Nat.reduceAdd, Nat.reduceMul, Nat.reduceLT, Nat.reduceLeDiff, Nat.reduceEqDiff, and_true, true_and, and_false, false_and, or_false, false_or, or_true, true_or, not_true_eq_false, not_false_eq_true, decide_true, decide_false, eq_self, Bool.false_eq_true, decide_eq_true_eq, Bool.and_eq_true, Bool.or_eq_true, Bool.not_eq_true', decide_eq_false_iff_not, decide_not, Bool.not_true, Bool.not_false, Bool.and_true, Bool.true_and, Bool.and_false, Bool.false_and, Bool.or_true, Bool.true_or, Bool.or_false, Bool.false_or, Bool.and_self, Bool.or_self, Bool.true_eq_false, Bool.and_eq_false_imp, Bool.or_eq_false_iff, jI, jJ, jA, o_iadd, o_isub, o_imul, o_iand, o_ior, o_ishl, o_ishr, o_ladd, o_lsub, o_lmul, o_i2l, o_l2i, o_i2b, o_ineg, if_bI, bI_z, bI_01, ifs, if_and, if_or, if_10, bI_zn, bI_nz, ifl, ifcons, ifint, iflong, ite_self, if_inc, Bool.decide_eq_true, Bool.decide_and, Bool.decide_or, xA_hh, xT_hh, xN_hh, xS_hh, xI_0, xI_c, xI_m, xI_o, xJ_0, xJ_m, sI_0, sI_c, sI_m, sI_o, sJ_0, sJ_m, sA_hh, u2_s, u2_n, xT_sI, xT_sA, xN_sI, xN_sA, xA_sI, xI_sA, xI_sI, xA_sA, xN_nw, xT_nw, xT_nn, xI_nw, xI_nn, xA_nw, xA_nn, iN_nat, l_nat, l_lt_T, l_lt_F, l_le_T, l_le_F, l_eq_F, iN_lt, iN_le, iN_eq, iN_lt_l, iN_le_l, iN_eq_l, l_lt_iN, l_le_iN, l_eq_iN, iN_eq_n, n_eq_iN, iN_le_n, iN_lt_n, iN_add, iN_mul, iN_add_l, l_add_iN, l_mul_iN, iN_sub, iN_sub_l, sub1_le, le_F, lt_T, lt_F, le_T, eq_F, y1, y3, hA, tp, st_9 hs]
        have hb : fX1_include_1b N z [.ref (x + 9), .int (iN v), .int (iN (q + 1)), xD] (hh x h C M P Q) = some (.inl ([.ref (x + 9), .int (iN v), .int (iN q), xD], hh x h C M P Q)) := by
          have y4 : iN (q + 1) + -1 = iN q := by rw [← Int32.sub_eq_add_neg]; exact y3
          simp -implicitDefEqProofs (disch := first | omega | decide) only [fX1_include_1b, mB_s, lay_n, lay_i, lay_r, lay_0, lay_l, List.length_cons, List.length_nil, List.cons_append, List.nil_append, sB, kS_l, kS_r, sSeq_a, sNil_a, kSetI_p, sSetI_a, kSetJ_p, sSetJ_a, kSetA_p, sSetA_a, kInc_p, sInc_a, kPut2_p, kPut1_p, sPut_a, kPutC2_p, kPutC1_p, sPutC_a, kAst3_p, kAst2_p, kAst1_p, sAst_a, kAstC3_p, kAstC2_p, kAstC1_p, sAstC_a, kAstZ3_p, kAstZ2_p, kAstZ1_p, sAstZ_a, kAstO3_p, kAstO2_p, kAstO1_p, sAstO_a, kAstA3_p, kAstA2_p, kAstA1_p, sAstA_a, kX_p, sX_a, kIf_p, sIf_a, kRet_p, sRet_a, kRetZ_p, sRetZ_a, sRetV_a, kSw_p, sSw_a, kPutZ2_p, kPutZ1_p, sPutZ_a, eI_a, eJ_a, eN_a, kL_p, eLI_a, eLJ_a, eLA_a, kT2_p, kT_p, eT_a, kP2_p, kP_p, eP_a, kU_p, eU_a, kGet_p, eGet_a, kAld2_p, kAld1_p, eAld_a, kLen_p, eLen_a, kEIf_p, eIf_a, kCast_p, eCast_a, aN_a, kC2_p, kC_p, aC_a, kCS_p, eCallS_a, kCV2_p, kCV1_p, eCallV_a, kN2_p, kN1_p, eNew_a, kNA_p, eNewA_a, kSt3_p, kSt2_p, kSt1_p, eSt_a, kSA2_p, kSA1_p, eSetA_a, eZ_a, eMi_a, kCl_p, eCls_a, kAnd_p, cAnd_a, kOr_p, cOr_a, cNot_a, cZ_a, cNul_a, cNN_a, cAeq_a, cAne_a, kObj_p, sObj_a, kSup2_p, kSup1_p, sSup_a, kCp5_p, kCp4_p, kCp3_p, kCp2_p, kCp1_p, sCpI_a, qEq, qNe, qLt, qGe, qGt, qLe, rGt_s, rLt_s, stL, stL2, kill, List.getElem?_cons_zero, List.getElem?_cons_succ, gI_i, gJ_l, gR_r, gR_0, rf_s, rf_n, Option.bind_some, Option.bind_none, mR_r, cat_i, cat_r, cat_0, cat_d, cat_l, ↓reduceIte, reduceCtorEq, Nat.reduceSub, Nat.reduceAdd, Nat.reduceMul, Nat.reduceLT, Nat.reduceLeDiff, Nat.reduceEqDiff, and_true, true_and, and_false, false_and, or_false, false_or, or_true, true_or, not_true_eq_false, not_false_eq_true, decide_true, decide_false, eq_self, Bool.false_eq_true, decide_eq_true_eq, Bool.and_eq_true, Bool.or_eq_true, Bool.not_eq_true', decide_eq_false_iff_not, decide_not, Bool.not_true, Bool.not_false, Bool.and_true, Bool.true_and, Bool.and_false, Bool.false_and, Bool.or_true, Bool.true_or, Bool.or_false, Bool.false_or, Bool.and_self, Bool.or_self, Bool.true_eq_false, Bool.and_eq_false_imp, Bool.or_eq_false_iff, jI, jJ, jA, o_iadd, o_isub, o_imul, o_iand, o_ior, o_ishl, o_ishr, o_ladd, o_lsub, o_lmul, o_i2l, o_l2i, o_i2b, o_ineg, if_bI, bI_z, bI_01, ifs, if_and, if_or, if_10, bI_zn, bI_nz, ifl, ifcons, ifint, iflong, ite_self, if_inc, Bool.decide_eq_true, Bool.decide_and, Bool.decide_or, xA_hh, xT_hh, xN_hh, xS_hh, xI_0, xI_c, xI_m, xI_o, xJ_0, xJ_m, sI_0, sI_c, sI_m, sI_o, sJ_0, sJ_m, sA_hh, u2_s, u2_n, xT_sI, xT_sA, xN_sI, xN_sA, xA_sI, xI_sA, xI_sI, xA_sA, xN_nw, xT_nw, xT_nn, xI_nw, xI_nn, xA_nw, xA_nn, iN_nat, l_nat, l_lt_T, l_lt_F, l_le_T, l_le_F, l_eq_F, iN_lt, iN_le, iN_eq, iN_lt_l, iN_le_l, iN_eq_l, l_lt_iN, l_le_iN, l_eq_iN, iN_eq_n, n_eq_iN, iN_le_n, iN_lt_n, iN_add, iN_mul, iN_add_l, l_add_iN, l_mul_iN, iN_sub, iN_sub_l, sub1_le, le_F, lt_T, lt_F, le_T, eq_F, y4]
        rw [sLoop_s, hc]
        simp only [Option.bind_some, if_true, hb]
        exact p4
    · refine ⟨q + 1, Nat.le_refl _, fun i h1 h2 => absurd h2 (by omega), Or.inr (by rw [Nat.add_sub_cancel]; omega), ?_⟩
      have hc : fX1_include_1c N z [.ref (x + 9), .int (iN v), .int (iN (q + 1)), xD] (hh x h C M P Q) = some (false, hh x h C M P Q) := by
        simp -implicitDefEqProofs (disch := first | omega | decide) only [fX1_include_1c, mB_s, lay_n, lay_i, lay_r, lay_0, lay_l, List.length_cons, List.length_nil, List.cons_append, List.nil_append, sB, kS_l, kS_r, sSeq_a, sNil_a, kSetI_p, sSetI_a, kSetJ_p, sSetJ_a, kSetA_p, sSetA_a, kInc_p, sInc_a, kPut2_p, kPut1_p, sPut_a, kPutC2_p, kPutC1_p, sPutC_a, kAst3_p, kAst2_p, kAst1_p, sAst_a, kAstC3_p, kAstC2_p, kAstC1_p, sAstC_a, kAstZ3_p, kAstZ2_p, kAstZ1_p, sAstZ_a, kAstO3_p, kAstO2_p, kAstO1_p, sAstO_a, kAstA3_p, kAstA2_p, kAstA1_p, sAstA_a, kX_p, sX_a, kIf_p, sIf_a, kRet_p, sRet_a, kRetZ_p, sRetZ_a, sRetV_a, kSw_p, sSw_a, kPutZ2_p, kPutZ1_p, sPutZ_a, eI_a, eJ_a, eN_a, kL_p, eLI_a, eLJ_a, eLA_a, kT2_p, kT_p, eT_a, kP2_p, kP_p, eP_a, kU_p, eU_a, kGet_p, eGet_a, kAld2_p, kAld1_p, eAld_a, kLen_p, eLen_a, kEIf_p, eIf_a, kCast_p, eCast_a, aN_a, kC2_p, kC_p, aC_a, kCS_p, eCallS_a, kCV2_p, kCV1_p, eCallV_a, kN2_p, kN1_p, eNew_a, kNA_p, eNewA_a, kSt3_p, kSt2_p, kSt1_p, eSt_a, kSA2_p, kSA1_p, eSetA_a, eZ_a, eMi_a, kCl_p, eCls_a, kAnd_p, cAnd_a, kOr_p, cOr_a, cNot_a, cZ_a, cNul_a, cNN_a, cAeq_a, cAne_a, kObj_p, sObj_a, kSup2_p, kSup1_p, sSup_a, kCp5_p, kCp4_p, kCp3_p, kCp2_p, kCp1_p, sCpI_a, qEq, qNe, qLt, qGe, qGt, qLe, rGt_s, rLt_s, stL, stL2, kill, List.getElem?_cons_zero, List.getElem?_cons_succ, gI_i, gJ_l, gR_r, gR_0, rf_s, rf_n, Option.bind_some, Option.bind_none, mR_r, cat_i, cat_r, cat_0, cat_d, cat_l, ↓reduceIte, reduceCtorEq, Nat.reduceSub, Nat.reduceAdd, Nat.reduceMul, Nat.reduceLT, Nat.reduceLeDiff, Nat.reduceEqDiff, and_true, true_and, and_false, false_and, or_false, false_or, or_true, true_or, not_true_eq_false, not_false_eq_true, decide_true, decide_false, eq_self, Bool.false_eq_true, decide_eq_true_eq, Bool.and_eq_true, Bool.or_eq_true, Bool.not_eq_true', decide_eq_false_iff_not, decide_not, Bool.not_true, Bool.not_false, Bool.and_true, Bool.true_and, Bool.and_false, Bool.false_and, Bool.or_true, Bool.true_or, Bool.or_false, Bool.false_or, Bool.and_self, Bool.or_self, Bool.true_eq_false, Bool.and_eq_false_imp, Bool.or_eq_false_iff, jI, jJ, jA, o_iadd, o_isub, o_imul, o_iand, o_ior, o_ishl, o_ishr, o_ladd, o_lsub, o_lmul, o_i2l, o_l2i, o_i2b, o_ineg, if_bI, bI_z, bI_01, ifs, if_and, if_or, if_10, bI_zn, bI_nz, ifl, ifcons, ifint, iflong, ite_self, if_inc, Bool.decide_eq_true, Bool.decide_and, Bool.decide_or, xA_hh, xT_hh, xN_hh, xS_hh, xI_0, xI_c, xI_m, xI_o, xJ_0, xJ_m, sI_0, sI_c, sI_m, sI_o, sJ_0, sJ_m, sA_hh, u2_s, u2_n, xT_sI, xT_sA, xN_sI, xN_sA, xA_sI, xI_sA, xI_sI, xA_sA, xN_nw, xT_nw, xT_nn, xI_nw, xI_nn, xA_nw, xA_nn, iN_nat, l_nat, l_lt_T, l_lt_F, l_le_T, l_le_F, l_eq_F, iN_lt, iN_le, iN_eq, iN_lt_l, iN_le_l, iN_eq_l, l_lt_iN, l_le_iN, l_eq_iN, iN_eq_n, n_eq_iN, iN_le_n, iN_lt_n, iN_add, iN_mul, iN_add_l, l_add_iN, l_mul_iN, iN_sub, iN_sub_l, sub1_le, le_F, lt_T, lt_F, le_T, eq_F, y1, y3, hA, tp, st_9 hs]
      rw [sLoop_s, hc]
      rfl
def inC (C : Nat → Nat → Int32) (p k a v : Nat) : Nat → Nat → Int32 := up2 (up2 (cp2 C p a p (a + 1) (k - a)) p a (iN v)) 9 1 (iN (k + 1))
theorem inC_n (C : Nat → Nat → Int32) {p k a v j l : Nat} (h1 : j ≠ p) (h2 : j ≠ 9 ∨ l ≠ 1) : inC C p k a v j l = C j l := by
  unfold inC
  rw [u2_n _ _ h2, u2_n _ _ (Or.inl h1)]
  unfold cp2
  rw [if_neg (by omega)]
def inR (R : Nat → Nat) (a v : Nat) : Nat → Nat := fun i => if i < a then R i else if i = a then v else R (i - 1)
theorem inC_S {R : Nat → Nat} {p k a v : Nat} (hp : p = 11 ∨ p = 12) (hS : Sl C p k R) (hv : v < 10000) (ha : a ≤ k) (h1 : ∀ i, a ≤ i → i < k → v < R i) (h2 : a = 0 ∨ R (a - 1) < v) : Sl (inC C p k a v) p (k + 1) (inR R a v) ∧ ∀ u, (∃ i, i < k + 1 ∧ inR R a v i = u) ↔ (∃ i, i < k ∧ R i = u) ∨ u = v := by
  obtain ⟨s1, s2, s3, s4⟩ := hS
  have lo : ∀ i, i < a → R i < v := by
    intro i hi
    rcases h2 with e | e
    · omega
    · by_cases q : i = a - 1
      · subst q; exact e
      · have := s4 i (a - 1) (by omega) (by omega)
        omega
  have i1 : ∀ i, i < a → inR R a v i = R i := fun i hi => if_pos hi
  have i2 : inR R a v a = v := by unfold inR; rw [if_neg (by omega), if_pos rfl]
  have i3 : ∀ i, a < i → inR R a v i = R (i - 1) := fun i hi => by unfold inR; rw [if_neg (by omega), if_neg (by omega)]
  refine ⟨⟨u2_s _ _ _ _, fun i hi => ?_, fun i hi => ?_, fun i j hij hj => ?_⟩, fun u => ⟨fun ⟨i, hi, e⟩ => ?_, fun w => ?_⟩⟩
  · unfold inC
    rw [u2_n _ _ (by omega)]
    rcases Nat.lt_trichotomy i a with q | q | q
    · rw [u2_n _ _ (by omega), i1 i q]
      unfold cp2
      rw [if_neg (by omega)]
      exact s2 i (by omega)
    · subst q
      rw [u2_s, i2]
    · rw [u2_n _ _ (by omega), i3 i q]
      unfold cp2
      rw [if_pos (by omega), show a + (i - (a + 1)) = i - 1 from by omega]
      exact s2 _ (by omega)
  · rcases Nat.lt_trichotomy i a with q | q | q
    · rw [i1 i q]; exact s3 i (by omega)
    · subst q; rw [i2]; exact hv
    · rw [i3 i q]; exact s3 _ (by omega)
  · rcases Nat.lt_trichotomy j a with q | q | q
    · rw [i1 i (by omega), i1 j q]; exact s4 i j hij (by omega)
    · subst q
      rw [i2, i1 i hij]
      exact lo i hij
    · rw [i3 j q]
      rcases Nat.lt_trichotomy i a with q2 | q2 | q2
      · rw [i1 i q2]
        have := lo i q2
        have := h1 (j - 1) (by omega) (by omega)
        omega
      · subst q2
        rw [i2]
        exact h1 (j - 1) (by omega) (by omega)
      · rw [i3 i q2]
        exact s4 _ _ (by omega) (by omega)
  · rcases Nat.lt_trichotomy i a with q | q | q
    · rw [i1 i q] at e; exact Or.inl ⟨i, by omega, e⟩
    · subst q; rw [i2] at e; exact Or.inr e.symm
    · rw [i3 i q] at e; exact Or.inl ⟨i - 1, by omega, e⟩
  · rcases w with ⟨i, hi, e⟩ | e
    · by_cases q : i < a
      · exact ⟨i, by omega, by rw [i1 i q]; exact e⟩
      · exact ⟨i + 1, by omega, by rw [i3 (i + 1) (by omega), Nat.add_sub_cancel]; exact e⟩
    · exact ⟨a, by omega, by rw [i2]; exact e.symm⟩
theorem c_inc (hs : Shp x h) {p : Nat} (hp : p = 11 ∨ p = 12) (hA : xA h (x + 9) 2 = some (x + p)) {R : Nat → Nat} {k v : Nat} (hk : k < 300) (hv : v < 10000) (hS : Sl C p k R) (hN : 10000 < N) : ∃ D R' k', fX1_include N z [.ref (x + 9), .int (iN v)] (hh x h C M P Q) = some ((), hh x h D M P Q) ∧ (∀ j l, j ≠ p → (j ≠ 9 ∨ l ≠ 1) → D j l = C j l) ∧ k' ≤ k + 1 ∧ Sl D p k' R' ∧ ∀ u, (∃ i, i < k' ∧ R' i = u) ↔ (∃ i, i < k ∧ R i = u) ∨ u = v := by
  obtain ⟨a, a1, a2, a3, a4⟩ := c_il (N := N) (z := z) (M := M) (P := P) (Q := Q) hs hp hA hk hv hS k N (Nat.le_refl _) (by omega)
  have tp : xT h (x + p) = (100, 300) := by
    rcases hp with e | e
    · subst e; exact st_11 hs
    · subst e; exact st_12 hs
  have e1 := hS.1
  by_cases w : a = 0
  · subst w
    obtain ⟨g1, g2⟩ := inC_S (a := 0) hp hS hv a1 a2 (Or.inl rfl)
    refine ⟨inC C p k 0 v, inR R 0 v, k + 1, ?_, fun j l h1 h2 => inC_n C h1 h2, Nat.le_refl _, g1, g2⟩
    unfold inC
    have y0 : cp2 C p 0 p 1 (k - 0) 9 1 = iN k := by
      unfold cp2
      rw [if_neg (by omega)]
      exact e1
    have xc := xCpI_c (x := x) (h := h) (C := C) (M := M) (P := P) (Q := Q) (a := p) (b := p) (sp := 0) (dp := 1) (n := k - 0) (by omega) (by omega)
    simp -implicitDefEqProofs (disch := first | omega | decide) only [fX1_include, mB_s, lay_n, lay_i, lay_r, lay_0, lay_l, List.length_cons, List.length_nil, List.cons_append, List.nil_append, sB, kS_l, kS_r, sSeq_a, sNil_a, kSetI_p, sSetI_a, kSetJ_p, sSetJ_a, kSetA_p, sSetA_a, kInc_p, sInc_a, kPut2_p, kPut1_p, sPut_a, kPutC2_p, kPutC1_p, sPutC_a, kAst3_p, kAst2_p, kAst1_p, sAst_a, kAstC3_p, kAstC2_p, kAstC1_p, sAstC_a, kAstZ3_p, kAstZ2_p, kAstZ1_p, sAstZ_a, kAstO3_p, kAstO2_p, kAstO1_p, sAstO_a, kAstA3_p, kAstA2_p, kAstA1_p, sAstA_a, kX_p, sX_a, kIf_p, sIf_a, kRet_p, sRet_a, kRetZ_p, sRetZ_a, sRetV_a, kSw_p, sSw_a, kPutZ2_p, kPutZ1_p, sPutZ_a, eI_a, eJ_a, eN_a, kL_p, eLI_a, eLJ_a, eLA_a, kT2_p, kT_p, eT_a, kP2_p, kP_p, eP_a, kU_p, eU_a, kGet_p, eGet_a, kAld2_p, kAld1_p, eAld_a, kLen_p, eLen_a, kEIf_p, eIf_a, kCast_p, eCast_a, aN_a, kC2_p, kC_p, aC_a, kCS_p, eCallS_a, kCV2_p, kCV1_p, eCallV_a, kN2_p, kN1_p, eNew_a, kNA_p, eNewA_a, kSt3_p, kSt2_p, kSt1_p, eSt_a, kSA2_p, kSA1_p, eSetA_a, eZ_a, eMi_a, kCl_p, eCls_a, kAnd_p, cAnd_a, kOr_p, cOr_a, cNot_a, cZ_a, cNul_a, cNN_a, cAeq_a, cAne_a, kObj_p, sObj_a, kSup2_p, kSup1_p, sSup_a, kCp5_p, kCp4_p, kCp3_p, kCp2_p, kCp1_p, sCpI_a, qEq, qNe, qLt, qGe, qGt, qLe, rGt_s, rLt_s, stL, stL2, kill, List.getElem?_cons_zero, List.getElem?_cons_succ, gI_i, gJ_l, gR_r, gR_0, rf_s, rf_n, Option.bind_some, Option.bind_none, mR_r, cat_i, cat_r, cat_0, cat_d, cat_l, ↓reduceIte, reduceCtorEq, Nat.reduceSub, Nat.reduceAdd, Nat.reduceMul, Nat.reduceLT, Nat.reduceLeDiff, Nat.reduceEqDiff, and_true, true_and, and_false, false_and, or_false, false_or, or_true, true_or, not_true_eq_false, not_false_eq_true, decide_true, decide_false, eq_self, Bool.false_eq_true, decide_eq_true_eq, Bool.and_eq_true, Bool.or_eq_true, Bool.not_eq_true', decide_eq_false_iff_not, decide_not, Bool.not_true, Bool.not_false, Bool.and_true, Bool.true_and, Bool.and_false, Bool.false_and, Bool.or_true, Bool.true_or, Bool.or_false, Bool.false_or, Bool.and_self, Bool.or_self, Bool.true_eq_false, Bool.and_eq_false_imp, Bool.or_eq_false_iff, jI, jJ, jA, o_iadd, o_isub, o_imul, o_iand, o_ior, o_ishl, o_ishr, o_ladd, o_lsub, o_lmul, o_i2l, o_l2i, o_i2b, o_ineg, if_bI, bI_z, bI_01, ifs, if_and, if_or, if_10, bI_zn, bI_nz, ifl, ifcons, ifint, iflong, ite_self, if_inc, Bool.decide_eq_true, Bool.decide_and, Bool.decide_or, xA_hh, xT_hh, xN_hh, xS_hh, xI_0, xI_c, xI_m, xI_o, xJ_0, xJ_m, sI_0, sI_c, sI_m, sI_o, sJ_0, sJ_m, sA_hh, u2_s, u2_n, xT_sI, xT_sA, xN_sI, xN_sA, xA_sI, xI_sA, xI_sI, xA_sA, xN_nw, xT_nw, xT_nn, xI_nw, xI_nn, xA_nw, xA_nn, iN_nat, l_nat, l_lt_T, l_lt_F, l_le_T, l_le_F, l_eq_F, iN_lt, iN_le, iN_eq, iN_lt_l, iN_le_l, iN_eq_l, l_lt_iN, l_le_iN, l_eq_iN, iN_eq_n, n_eq_iN, iN_le_n, iN_lt_n, iN_add, iN_mul, iN_add_l, l_add_iN, l_mul_iN, iN_sub, iN_sub_l, sub1_le, le_F, lt_T, lt_F, le_T, eq_F, st_9 hs, e1, a4, hA, tp, st_9 hs, xc, y0]
  · obtain ⟨q, rfl⟩ : ∃ q, a = q + 1 := ⟨a - 1, by omega⟩
    have a3 : R q ≤ v := by
      rcases a3 with e | e
      · omega
      · exact e
    have y1 := hS.2.1 q (by omega)
    have b1 := hS.2.2.1 q (by omega)
    have y3 := iN_pred q
    by_cases w2 : R q = v
    · refine ⟨C, R, k, ?_, fun _ _ _ _ => rfl, by omega, hS, fun u => ⟨Or.inl, fun w => ?_⟩⟩
      · simp -implicitDefEqProofs (disch := first | omega | decide) only [fX1_include, mB_s, lay_n, lay_i, lay_r, lay_0, lay_l, List.length_cons, List.length_nil, List.cons_append, List.nil_append, sB, kS_l, kS_r, sSeq_a, sNil_a, kSetI_p, sSetI_a, kSetJ_p, sSetJ_a, kSetA_p, sSetA_a, kInc_p, sInc_a, kPut2_p, kPut1_p, sPut_a, kPutC2_p, kPutC1_p, sPutC_a, kAst3_p, kAst2_p, kAst1_p, sAst_a, kAstC3_p, kAstC2_p, kAstC1_p, sAstC_a, kAstZ3_p, kAstZ2_p, kAstZ1_p, sAstZ_a, kAstO3_p, kAstO2_p, kAstO1_p, sAstO_a, kAstA3_p, kAstA2_p, kAstA1_p, sAstA_a, kX_p, sX_a, kIf_p, sIf_a, kRet_p, sRet_a, kRetZ_p, sRetZ_a, sRetV_a, kSw_p, sSw_a, kPutZ2_p, kPutZ1_p, sPutZ_a, eI_a, eJ_a, eN_a, kL_p, eLI_a, eLJ_a, eLA_a, kT2_p, kT_p, eT_a, kP2_p, kP_p, eP_a, kU_p, eU_a, kGet_p, eGet_a, kAld2_p, kAld1_p, eAld_a, kLen_p, eLen_a, kEIf_p, eIf_a, kCast_p, eCast_a, aN_a, kC2_p, kC_p, aC_a, kCS_p, eCallS_a, kCV2_p, kCV1_p, eCallV_a, kN2_p, kN1_p, eNew_a, kNA_p, eNewA_a, kSt3_p, kSt2_p, kSt1_p, eSt_a, kSA2_p, kSA1_p, eSetA_a, eZ_a, eMi_a, kCl_p, eCls_a, kAnd_p, cAnd_a, kOr_p, cOr_a, cNot_a, cZ_a, cNul_a, cNN_a, cAeq_a, cAne_a, kObj_p, sObj_a, kSup2_p, kSup1_p, sSup_a, kCp5_p, kCp4_p, kCp3_p, kCp2_p, kCp1_p, sCpI_a, qEq, qNe, qLt, qGe, qGt, qLe, rGt_s, rLt_s, stL, stL2, kill, List.getElem?_cons_zero, List.getElem?_cons_succ, gI_i, gJ_l, gR_r, gR_0, rf_s, rf_n, Option.bind_some, Option.bind_none, mR_r, cat_i, cat_r, cat_0, cat_d, cat_l, ↓reduceIte, reduceCtorEq, Nat.reduceSub, Nat.reduceAdd, Nat.reduceMul, Nat.reduceLT, Nat.reduceLeDiff, Nat.reduceEqDiff, and_true, true_and, and_false, false_and, or_false, false_or, or_true, true_or, not_true_eq_false, not_false_eq_true, decide_true, decide_false, eq_self, Bool.false_eq_true, decide_eq_true_eq, Bool.and_eq_true, Bool.or_eq_true, Bool.not_eq_true', decide_eq_false_iff_not, decide_not, Bool.not_true, Bool.not_false, Bool.and_true, Bool.true_and, Bool.and_false, Bool.false_and, Bool.or_true, Bool.true_or, Bool.or_false, Bool.false_or, Bool.and_self, Bool.or_self, Bool.true_eq_false, Bool.and_eq_false_imp, Bool.or_eq_false_iff, jI, jJ, jA, o_iadd, o_isub, o_imul, o_iand, o_ior, o_ishl, o_ishr, o_ladd, o_lsub, o_lmul, o_i2l, o_l2i, o_i2b, o_ineg, if_bI, bI_z, bI_01, ifs, if_and, if_or, if_10, bI_zn, bI_nz, ifl, ifcons, ifint, iflong, ite_self, if_inc, Bool.decide_eq_true, Bool.decide_and, Bool.decide_or, xA_hh, xT_hh, xN_hh, xS_hh, xI_0, xI_c, xI_m, xI_o, xJ_0, xJ_m, sI_0, sI_c, sI_m, sI_o, sJ_0, sJ_m, sA_hh, u2_s, u2_n, xT_sI, xT_sA, xN_sI, xN_sA, xA_sI, xI_sA, xI_sI, xA_sA, xN_nw, xT_nw, xT_nn, xI_nw, xI_nn, xA_nw, xA_nn, iN_nat, l_nat, l_lt_T, l_lt_F, l_le_T, l_le_F, l_eq_F, iN_lt, iN_le, iN_eq, iN_lt_l, iN_le_l, iN_eq_l, l_lt_iN, l_le_iN, l_eq_iN, iN_eq_n, n_eq_iN, iN_le_n, iN_lt_n, iN_add, iN_mul, iN_add_l, l_add_iN, l_mul_iN, iN_sub, iN_sub_l, sub1_le, le_F, lt_T, lt_F, le_T, eq_F, st_9 hs, e1, a4, hA, tp, st_9 hs, y1, y3, w2]
      · rcases w with w | w
        · exact w
        · exact ⟨q, by omega, w2.trans w.symm⟩
    · obtain ⟨g1, g2⟩ := inC_S (a := q + 1) hp hS hv a1 a2 (Or.inr (by rw [Nat.add_sub_cancel]; omega))
      refine ⟨inC C p k (q + 1) v, inR R (q + 1) v, k + 1, ?_, fun j l h1 h2 => inC_n C h1 h2, Nat.le_refl _, g1, g2⟩
      unfold inC
      have y0 : cp2 C p (q + 1) p (q + 1 + 1) (k - (q + 1)) 9 1 = iN k := by
        unfold cp2
        rw [if_neg (by omega)]
        exact e1
      have xc := xCpI_c (x := x) (h := h) (C := C) (M := M) (P := P) (Q := Q) (a := p) (b := p) (sp := q + 1) (dp := q + 1 + 1) (n := k - (q + 1)) (by omega) (by omega)
      simp -implicitDefEqProofs (disch := first | omega | decide) only [fX1_include, mB_s, lay_n, lay_i, lay_r, lay_0, lay_l, List.length_cons, List.length_nil, List.cons_append, List.nil_append, sB, kS_l, kS_r, sSeq_a, sNil_a, kSetI_p, sSetI_a, kSetJ_p, sSetJ_a, kSetA_p, sSetA_a, kInc_p, sInc_a, kPut2_p, kPut1_p, sPut_a, kPutC2_p, kPutC1_p, sPutC_a, kAst3_p, kAst2_p, kAst1_p, sAst_a, kAstC3_p, kAstC2_p, kAstC1_p, sAstC_a, kAstZ3_p, kAstZ2_p, kAstZ1_p, sAstZ_a, kAstO3_p, kAstO2_p, kAstO1_p, sAstO_a, kAstA3_p, kAstA2_p, kAstA1_p, sAstA_a, kX_p, sX_a, kIf_p, sIf_a, kRet_p, sRet_a, kRetZ_p, sRetZ_a, sRetV_a, kSw_p, sSw_a, kPutZ2_p, kPutZ1_p, sPutZ_a, eI_a, eJ_a, eN_a, kL_p, eLI_a, eLJ_a, eLA_a, kT2_p, kT_p, eT_a, kP2_p, kP_p, eP_a, kU_p, eU_a, kGet_p, eGet_a, kAld2_p, kAld1_p, eAld_a, kLen_p, eLen_a, kEIf_p, eIf_a, kCast_p, eCast_a, aN_a, kC2_p, kC_p, aC_a, kCS_p, eCallS_a, kCV2_p, kCV1_p, eCallV_a, kN2_p, kN1_p, eNew_a, kNA_p, eNewA_a, kSt3_p, kSt2_p, kSt1_p, eSt_a, kSA2_p, kSA1_p, eSetA_a, eZ_a, eMi_a, kCl_p, eCls_a, kAnd_p, cAnd_a, kOr_p, cOr_a, cNot_a, cZ_a, cNul_a, cNN_a, cAeq_a, cAne_a, kObj_p, sObj_a, kSup2_p, kSup1_p, sSup_a, kCp5_p, kCp4_p, kCp3_p, kCp2_p, kCp1_p, sCpI_a, qEq, qNe, qLt, qGe, qGt, qLe, rGt_s, rLt_s, stL, stL2, kill, List.getElem?_cons_zero, List.getElem?_cons_succ, gI_i, gJ_l, gR_r, gR_0, rf_s, rf_n, Option.bind_some, Option.bind_none, mR_r, cat_i, cat_r, cat_0, cat_d, cat_l, ↓reduceIte, reduceCtorEq, Nat.reduceSub, Nat.reduceAdd, Nat.reduceMul, Nat.reduceLT, Nat.reduceLeDiff, Nat.reduceEqDiff, and_true, true_and, and_false, false_and, or_false, false_or, or_true, true_or, not_true_eq_false, not_false_eq_true, decide_true, decide_false, eq_self, Bool.false_eq_true, decide_eq_true_eq, Bool.and_eq_true, Bool.or_eq_true, Bool.not_eq_true', decide_eq_false_iff_not, decide_not, Bool.not_true, Bool.not_false, Bool.and_true, Bool.true_and, Bool.and_false, Bool.false_and, Bool.or_true, Bool.true_or, Bool.or_false, Bool.false_or, Bool.and_self, Bool.or_self, Bool.true_eq_false, Bool.and_eq_false_imp, Bool.or_eq_false_iff, jI, jJ, jA, o_iadd, o_isub, o_imul, o_iand, o_ior, o_ishl, o_ishr, o_ladd, o_lsub, o_lmul, o_i2l, o_l2i, o_i2b, o_ineg, if_bI, bI_z, bI_01, ifs, if_and, if_or, if_10, bI_zn, bI_nz, ifl, ifcons, ifint, iflong, ite_self, if_inc, Bool.decide_eq_true, Bool.decide_and, Bool.decide_or, xA_hh, xT_hh, xN_hh, xS_hh, xI_0, xI_c, xI_m, xI_o, xJ_0, xJ_m, sI_0, sI_c, sI_m, sI_o, sJ_0, sJ_m, sA_hh, u2_s, u2_n, xT_sI, xT_sA, xN_sI, xN_sA, xA_sI, xI_sA, xI_sI, xA_sA, xN_nw, xT_nw, xT_nn, xI_nw, xI_nn, xA_nw, xA_nn, iN_nat, l_nat, l_lt_T, l_lt_F, l_le_T, l_le_F, l_eq_F, iN_lt, iN_le, iN_eq, iN_lt_l, iN_le_l, iN_eq_l, l_lt_iN, l_le_iN, l_eq_iN, iN_eq_n, n_eq_iN, iN_le_n, iN_lt_n, iN_add, iN_mul, iN_add_l, l_add_iN, l_mul_iN, iN_sub, iN_sub_l, sub1_le, le_F, lt_T, lt_F, le_T, eq_F, st_9 hs, e1, a4, hA, tp, st_9 hs, y1, y3, w2, xc, y0]
end MK
