/-! the class follows a mark through the ages -/
section FW
variable {x N : Nat} {z : Nat × Nat} {h : XH} {C M : Nat → Nat → Int32} {P Q : Nat → Nat → Int64} {A : Nat → Nat → Nat} {n : Nat → Nat} {c : Nat}
def Bq (M : Nat → Nat → Int32) (nl age : Nat) (kn : Int32) (mark : Nat) : Nat → Nat → Prop
  | 0 => fun u => u = mark
  | t + 1 => fun u => ∃ l m, l < nl ∧ Bq M nl age kn mark t m ∧ Tn M (age + t) kn l m u
def kb (M : Nat → Nat → Int32) (nl age : Nat) : Nat → Nat
  | 0 => 1
  | t + 1 => cA M (age + t) nl * kb M nl age t
theorem c3 (M : Nat → Nat → Int32) : ∀ nl, cA M 0 nl + cA M 1 nl + cA M 2 nl ≤ nl
  | 0 => Nat.le_refl _
  | l + 1 => by
    have ih := c3 M l
    rw [cA_s, cA_s, cA_s]
    by_cases e0 : M 37 l = iN 0
    · rw [if_pos e0, if_neg (by rw [e0]; decide), if_neg (by rw [e0]; decide)]
      omega
    · rw [if_neg e0]
      by_cases e1 : M 37 l = iN 1
      · rw [if_pos e1, if_neg (by rw [e1]; decide)]
        omega
      · rw [if_neg e1]
        split <;> omega
theorem pr2 : ∀ a, a < 21 → ∀ b, b < 21 → a + b ≤ 20 → b * (a * 1) ≤ 300 := by decide
theorem pr3 : ∀ a, a < 21 → ∀ b, b < 21 → a + b ≤ 20 → ∀ c, c < 21 - (a + b) → c * (b * (a * 1)) ≤ 300 := by decide
theorem kb_le (M : Nat → Nat → Int32) {nl age t : Nat} (hn : nl ≤ 20) (h3 : age + t ≤ 3) : kb M nl age t ≤ 300 := by
  have hc := c3 M nl
  rcases t with _ | _ | _ | _ | t
  · show 1 ≤ 300
    omega
  · show cA M age nl * 1 ≤ 300
    rcases age with _ | _ | _ | a
    · omega
    · show cA M 1 nl * 1 ≤ 300
      omega
    · show cA M 2 nl * 1 ≤ 300
      omega
    · omega
  · show cA M (age + 1) nl * (cA M age nl * 1) ≤ 300
    rcases age with _ | _ | a
    · exact pr2 (cA M 0 nl) (by omega) (cA M 1 nl) (by omega) (by omega)
    · exact pr2 (cA M 1 nl) (by omega) (cA M 2 nl) (by omega) (by omega)
    · omega
  · show cA M (age + 2) nl * (cA M (age + 1) nl * (cA M age nl * 1)) ≤ 300
    rcases age with _ | a
    · exact pr3 (cA M 0 nl) (by omega) (cA M 1 nl) (by omega) (by omega) (cA M 2 nl) (by omega)
    · omega
  · omega
theorem c_fw {age mark : Nat} {kn : Int32} (hI : Inv x z A h C M P Q n c) (ha : age ≤ 3) (hm : mark < 10000) (hN : 10000 < N) : ∃ h2 D p q k R, fX1_follow N z [.ref (x + 9), .int (iN age), .int (iN mark), .int kn] (hh x h C M P Q) = some ((), hh x h2 D M P Q) ∧ Inv x z A h2 D M P Q n c ∧ pq p q ∧ xA h2 (x + 9) 2 = some (x + p) ∧ k ≤ 300 ∧ Sl D p k R ∧ (∀ u, (∃ i, i < k ∧ R i = u) ↔ Bq M (n 6) age kn mark (3 - age) u) ∧ xN h2 = xN h ∧ xS h2 = xS h := by
  have hs := hI.sh
  have bb0 := hI.cn.b0; have bb1 := hI.cn.b1; have bb2 := hI.cn.b2; have bb3 := hI.cn.b3; have bb4 := hI.cn.b4; have bb5 := hI.cn.b5; have bb6 := hI.cn.b6
  obtain ⟨p0, q0, h0, h02, h03⟩ : ∃ p q, pq p q ∧ xA h (x + 9) 2 = some (x + p) ∧ xA h (x + 9) 3 = some (x + q) := by
    rcases hI.cx.p with w | w
    · exact ⟨11, 12, Or.inl ⟨rfl, rfl⟩, w.1, w.2⟩
    · exact ⟨12, 11, Or.inr ⟨rfl, rfl⟩, w.1, w.2⟩
  have hpq' : p0 < 65 ∧ p0 ≠ 9 ∧ (p0 = 11 ∨ p0 = 12) := by unfold pq at h0; omega
  have tp : xT h (x + p0) = (100, 300) := by
    rcases h0 with e | e
    · rw [e.1]; exact st_11 hs
    · rw [e.1]; exact st_12 hs
  have hI1 := hI.rwc (D := up2 (up2 C p0 0 (iN mark)) 9 1 1) (fun j l h1 h2 h3 => by rw [u2_n _ _ h3, u2_n _ _ (by omega)])
  have s1 : Sl (up2 (up2 C p0 0 (iN mark)) 9 1 1) p0 1 (fun _ => mark) := ⟨u2_s _ _ _ _, fun i hi => by
    have : i = 0 := by omega
    subst this
    rw [u2_n _ _ (by omega), u2_s], fun i hi => hm, fun i j hij hj => absurd hj (by omega)⟩
  have hl := loop_inv (c := fX1_follow_1c N z) (b := fX1_follow_1b N z) (fun t L H => ∃ h2 D p q k R, L = [.ref (x + 9), .int (iN age), .int (iN mark), .int kn, .int (iN (age + t))] ∧ H = hh x h2 D M P Q ∧ Inv x z A h2 D M P Q n c ∧ pq p q ∧ xA h2 (x + 9) 2 = some (x + p) ∧ xA h2 (x + 9) 3 = some (x + q) ∧ k ≤ kb M (n 6) age t ∧ Sl D p k R ∧ (∀ u, (∃ i, i < k ∧ R i = u) ↔ Bq M (n 6) age kn mark t u) ∧ xN h2 = xN h ∧ xS h2 = xS h) (3 - age) ?_ ?_ (N := N) (L := [.ref (x + 9), .int (iN age), .int (iN mark), .int kn, .int (iN age)]) (h := hh x h (up2 (up2 C p0 0 (iN mark)) 9 1 1) M P Q) (by omega) ⟨h, _, p0, q0, 1, fun _ => mark, rfl, rfl, hI1, h0, h02, h03, Nat.le_refl _, s1, fun u => ⟨fun ⟨_, _, w⟩ => w.symm, fun w => ⟨0, by omega, Eq.symm w⟩⟩, rfl, rfl⟩
  · obtain ⟨L, H, l1, h2, D, p, q, k, R, l2, l3, l4, l5, l6, l7, l8, l9, l10, l11, l12⟩ := hl
    subst l2 l3
    have := kb_le M (nl := n 6) (age := age) (t := 3 - age) bb6 (by omega)
    refine ⟨h2, D, p, q, k, R, ?_, l4, l5, l6, by omega, l9, l10, l11, l12⟩
    simp -implicitDefEqProofs (disch := first | omega | decide) only [fX1_follow, mB_s, lay_n, lay_i, lay_r, lay_0, lay_l, List.length_cons, List.length_nil, List.cons_append, List.nil_append, sB, kS_l, kS_r, sSeq_a, sNil_a, kSetI_p, sSetI_a, kSetJ_p, sSetJ_a, kSetA_p, sSetA_a, kInc_p, sInc_a, kPut2_p, kPut1_p, sPut_a, kPutC2_p, kPutC1_p, sPutC_a, kAst3_p, kAst2_p, kAst1_p, sAst_a, kAstC3_p, kAstC2_p, kAstC1_p, sAstC_a, kAstZ3_p, kAstZ2_p, kAstZ1_p, sAstZ_a, kAstO3_p, kAstO2_p, kAstO1_p, sAstO_a, kAstA3_p, kAstA2_p, kAstA1_p, sAstA_a, kX_p, sX_a, kIf_p, sIf_a, kRet_p, sRet_a, kRetZ_p, sRetZ_a, sRetV_a, kSw_p, sSw_a, kPutZ2_p, kPutZ1_p, sPutZ_a, eI_a, eJ_a, eN_a, kL_p, eLI_a, eLJ_a, eLA_a, kT2_p, kT_p, eT_a, kP2_p, kP_p, eP_a, kU_p, eU_a, kGet_p, eGet_a, kAld2_p, kAld1_p, eAld_a, kLen_p, eLen_a, kEIf_p, eIf_a, kCast_p, eCast_a, aN_a, kC2_p, kC_p, aC_a, kCS_p, eCallS_a, kCV2_p, kCV1_p, eCallV_a, kN2_p, kN1_p, eNew_a, kNA_p, eNewA_a, kSt3_p, kSt2_p, kSt1_p, eSt_a, kSA2_p, kSA1_p, eSetA_a, eZ_a, eMi_a, kCl_p, eCls_a, kAnd_p, cAnd_a, kOr_p, cOr_a, cNot_a, cZ_a, cNul_a, cNN_a, cAeq_a, cAne_a, kObj_p, sObj_a, kSup2_p, kSup1_p, sSup_a, kCp5_p, kCp4_p, kCp3_p, kCp2_p, kCp1_p, sCpI_a, qEq, qNe, qLt, qGe, qGt, qLe, rGt_s, rLt_s, stL, stL2, kill, List.getElem?_cons_zero, List.getElem?_cons_succ, gI_i, gJ_l, gR_r, gR_0, rf_s, rf_n, Option.bind_some, Option.bind_none, mR_r, cat_i, cat_r, cat_0, cat_d, cat_l, ↓reduceIte, reduceCtorEq, Nat.reduceSub, Nat.reduceAdd, Nat.reduceMul, Nat.reduceLT, Nat.reduceLeDiff, Nat.reduceEqDiff, and_true, true_and, and_false, false_and, or_false, false_or, or_true, true_or, not_true_eq_false, not_false_eq_true, decide_true, decide_false, eq_self, Bool.false_eq_true, decide_eq_true_eq, Bool.and_eq_true, Bool.or_eq_true, Bool.not_eq_true', decide_eq_false_iff_not, decide_not, Bool.not_true, Bool.not_false, Bool.and_true, Bool.true_and, Bool.and_false, Bool.false_and, Bool.or_true, Bool.true_or, Bool.or_false, Bool.false_or, Bool.and_self, Bool.or_self, Bool.true_eq_false, Bool.and_eq_false_imp, Bool.or_eq_false_iff, jI, jJ, jA, o_iadd, o_isub, o_imul, o_iand, o_ior, o_ishl, o_ishr, o_ladd, o_lsub, o_lmul, o_i2l, o_l2i, o_i2b, o_ineg, if_bI, bI_z, bI_01, ifs, if_and, if_or, if_10, bI_zn, bI_nz, ifl, ifcons, ifint, iflong, ite_self, if_inc, Bool.decide_eq_true, Bool.decide_and, Bool.decide_or, xA_hh, xT_hh, xN_hh, xS_hh, xI_0, xI_c, xI_m, xI_o, xJ_0, xJ_m, sI_0, sI_c, sI_m, sI_o, sJ_0, sJ_m, sA_hh, u2_s, u2_n, xT_sI, xT_sA, xN_sI, xN_sA, xA_sI, xI_sA, xI_sI, xA_sA, xN_nw, xT_nw, xT_nn, xI_nw, xI_nn, xA_nw, xA_nn, iN_nat, l_nat, l_lt_T, l_lt_F, l_le_T, l_le_F, l_eq_F, iN_lt, iN_le, iN_eq, iN_lt_l, iN_le_l, iN_eq_l, l_lt_iN, l_le_iN, l_eq_iN, iN_eq_n, n_eq_iN, iN_le_n, iN_lt_n, iN_add, iN_mul, iN_add_l, l_add_iN, l_mul_iN, iN_sub, iN_sub_l, sub1_le, le_F, lt_T, lt_F, le_T, eq_F, st_9 hs, h02, tp, st_9 hs, l1]
  · intro t ht L H ⟨h2, D, p, q, k, R, l2, l3, l4, l5, l6, l7, l8, l9, l10, l11, l12⟩
    subst l2 l3
    by_cases w : t < 3 - age
    · rw [show decide (t < 3 - age) = true from decide_eq_true w]
      simp -implicitDefEqProofs (disch := first | omega | decide) only [fX1_follow_1c, mB_s, lay_n, lay_i, lay_r, lay_0, lay_l, List.length_cons, List.length_nil, List.cons_append, List.nil_append, sB, kS_l, kS_r, sSeq_a, sNil_a, kSetI_p, sSetI_a, kSetJ_p, sSetJ_a, kSetA_p, sSetA_a, kInc_p, sInc_a, kPut2_p, kPut1_p, sPut_a, kPutC2_p, kPutC1_p, sPutC_a, kAst3_p, kAst2_p, kAst1_p, sAst_a, kAstC3_p, kAstC2_p, kAstC1_p, sAstC_a, kAstZ3_p, kAstZ2_p, kAstZ1_p, sAstZ_a, kAstO3_p, kAstO2_p, kAstO1_p, sAstO_a, kAstA3_p, kAstA2_p, kAstA1_p, sAstA_a, kX_p, sX_a, kIf_p, sIf_a, kRet_p, sRet_a, kRetZ_p, sRetZ_a, sRetV_a, kSw_p, sSw_a, kPutZ2_p, kPutZ1_p, sPutZ_a, eI_a, eJ_a, eN_a, kL_p, eLI_a, eLJ_a, eLA_a, kT2_p, kT_p, eT_a, kP2_p, kP_p, eP_a, kU_p, eU_a, kGet_p, eGet_a, kAld2_p, kAld1_p, eAld_a, kLen_p, eLen_a, kEIf_p, eIf_a, kCast_p, eCast_a, aN_a, kC2_p, kC_p, aC_a, kCS_p, eCallS_a, kCV2_p, kCV1_p, eCallV_a, kN2_p, kN1_p, eNew_a, kNA_p, eNewA_a, kSt3_p, kSt2_p, kSt1_p, eSt_a, kSA2_p, kSA1_p, eSetA_a, eZ_a, eMi_a, kCl_p, eCls_a, kAnd_p, cAnd_a, kOr_p, cOr_a, cNot_a, cZ_a, cNul_a, cNN_a, cAeq_a, cAne_a, kObj_p, sObj_a, kSup2_p, kSup1_p, sSup_a, kCp5_p, kCp4_p, kCp3_p, kCp2_p, kCp1_p, sCpI_a, qEq, qNe, qLt, qGe, qGt, qLe, rGt_s, rLt_s, stL, stL2, kill, List.getElem?_cons_zero, List.getElem?_cons_succ, gI_i, gJ_l, gR_r, gR_0, rf_s, rf_n, Option.bind_some, Option.bind_none, mR_r, cat_i, cat_r, cat_0, cat_d, cat_l, ↓reduceIte, reduceCtorEq, Nat.reduceSub, Nat.reduceAdd, Nat.reduceMul, Nat.reduceLT, Nat.reduceLeDiff, Nat.reduceEqDiff, and_true, true_and, and_false, false_and, or_false, false_or, or_true, true_or, not_true_eq_false, not_false_eq_true, decide_true, decide_false, eq_self, Bool.false_eq_true, decide_eq_true_eq, Bool.and_eq_true, Bool.or_eq_true, Bool.not_eq_true', decide_eq_false_iff_not, decide_not, Bool.not_true, Bool.not_false, Bool.and_true, Bool.true_and, Bool.and_false, Bool.false_and, Bool.or_true, Bool.true_or, Bool.or_false, Bool.false_or, Bool.and_self, Bool.or_self, Bool.true_eq_false, Bool.and_eq_false_imp, Bool.or_eq_false_iff, jI, jJ, jA, o_iadd, o_isub, o_imul, o_iand, o_ior, o_ishl, o_ishr, o_ladd, o_lsub, o_lmul, o_i2l, o_l2i, o_i2b, o_ineg, if_bI, bI_z, bI_01, ifs, if_and, if_or, if_10, bI_zn, bI_nz, ifl, ifcons, ifint, iflong, ite_self, if_inc, Bool.decide_eq_true, Bool.decide_and, Bool.decide_or, xA_hh, xT_hh, xN_hh, xS_hh, xI_0, xI_c, xI_m, xI_o, xJ_0, xJ_m, sI_0, sI_c, sI_m, sI_o, sJ_0, sJ_m, sA_hh, u2_s, u2_n, xT_sI, xT_sA, xN_sI, xN_sA, xA_sI, xI_sA, xI_sI, xA_sA, xN_nw, xT_nw, xT_nn, xI_nw, xI_nn, xA_nw, xA_nn, iN_nat, l_nat, l_lt_T, l_lt_F, l_le_T, l_le_F, l_eq_F, iN_lt, iN_le, iN_eq, iN_lt_l, iN_le_l, iN_eq_l, l_lt_iN, l_le_iN, l_eq_iN, iN_eq_n, n_eq_iN, iN_le_n, iN_lt_n, iN_add, iN_mul, iN_add_l, l_add_iN, l_mul_iN, iN_sub, iN_sub_l, sub1_le, le_F, lt_T, lt_F, le_T, eq_F]
    · rw [show decide (t < 3 - age) = false from decide_eq_false w]
      simp -implicitDefEqProofs (disch := first | omega | decide) only [fX1_follow_1c, mB_s, lay_n, lay_i, lay_r, lay_0, lay_l, List.length_cons, List.length_nil, List.cons_append, List.nil_append, sB, kS_l, kS_r, sSeq_a, sNil_a, kSetI_p, sSetI_a, kSetJ_p, sSetJ_a, kSetA_p, sSetA_a, kInc_p, sInc_a, kPut2_p, kPut1_p, sPut_a, kPutC2_p, kPutC1_p, sPutC_a, kAst3_p, kAst2_p, kAst1_p, sAst_a, kAstC3_p, kAstC2_p, kAstC1_p, sAstC_a, kAstZ3_p, kAstZ2_p, kAstZ1_p, sAstZ_a, kAstO3_p, kAstO2_p, kAstO1_p, sAstO_a, kAstA3_p, kAstA2_p, kAstA1_p, sAstA_a, kX_p, sX_a, kIf_p, sIf_a, kRet_p, sRet_a, kRetZ_p, sRetZ_a, sRetV_a, kSw_p, sSw_a, kPutZ2_p, kPutZ1_p, sPutZ_a, eI_a, eJ_a, eN_a, kL_p, eLI_a, eLJ_a, eLA_a, kT2_p, kT_p, eT_a, kP2_p, kP_p, eP_a, kU_p, eU_a, kGet_p, eGet_a, kAld2_p, kAld1_p, eAld_a, kLen_p, eLen_a, kEIf_p, eIf_a, kCast_p, eCast_a, aN_a, kC2_p, kC_p, aC_a, kCS_p, eCallS_a, kCV2_p, kCV1_p, eCallV_a, kN2_p, kN1_p, eNew_a, kNA_p, eNewA_a, kSt3_p, kSt2_p, kSt1_p, eSt_a, kSA2_p, kSA1_p, eSetA_a, eZ_a, eMi_a, kCl_p, eCls_a, kAnd_p, cAnd_a, kOr_p, cOr_a, cNot_a, cZ_a, cNul_a, cNN_a, cAeq_a, cAne_a, kObj_p, sObj_a, kSup2_p, kSup1_p, sSup_a, kCp5_p, kCp4_p, kCp3_p, kCp2_p, kCp1_p, sCpI_a, qEq, qNe, qLt, qGe, qGt, qLe, rGt_s, rLt_s, stL, stL2, kill, List.getElem?_cons_zero, List.getElem?_cons_succ, gI_i, gJ_l, gR_r, gR_0, rf_s, rf_n, Option.bind_some, Option.bind_none, mR_r, cat_i, cat_r, cat_0, cat_d, cat_l, ↓reduceIte, reduceCtorEq, Nat.reduceSub, Nat.reduceAdd, Nat.reduceMul, Nat.reduceLT, Nat.reduceLeDiff, Nat.reduceEqDiff, and_true, true_and, and_false, false_and, or_false, false_or, or_true, true_or, not_true_eq_false, not_false_eq_true, decide_true, decide_false, eq_self, Bool.false_eq_true, decide_eq_true_eq, Bool.and_eq_true, Bool.or_eq_true, Bool.not_eq_true', decide_eq_false_iff_not, decide_not, Bool.not_true, Bool.not_false, Bool.and_true, Bool.true_and, Bool.and_false, Bool.false_and, Bool.or_true, Bool.true_or, Bool.or_false, Bool.false_or, Bool.and_self, Bool.or_self, Bool.true_eq_false, Bool.and_eq_false_imp, Bool.or_eq_false_iff, jI, jJ, jA, o_iadd, o_isub, o_imul, o_iand, o_ior, o_ishl, o_ishr, o_ladd, o_lsub, o_lmul, o_i2l, o_l2i, o_i2b, o_ineg, if_bI, bI_z, bI_01, ifs, if_and, if_or, if_10, bI_zn, bI_nz, ifl, ifcons, ifint, iflong, ite_self, if_inc, Bool.decide_eq_true, Bool.decide_and, Bool.decide_or, xA_hh, xT_hh, xN_hh, xS_hh, xI_0, xI_c, xI_m, xI_o, xJ_0, xJ_m, sI_0, sI_c, sI_m, sI_o, sJ_0, sJ_m, sA_hh, u2_s, u2_n, xT_sI, xT_sA, xN_sI, xN_sA, xA_sI, xI_sA, xI_sI, xA_sA, xN_nw, xT_nw, xT_nn, xI_nw, xI_nn, xA_nw, xA_nn, iN_nat, l_nat, l_lt_T, l_lt_F, l_le_T, l_le_F, l_eq_F, iN_lt, iN_le, iN_eq, iN_lt_l, iN_le_l, iN_eq_l, l_lt_iN, l_le_iN, l_eq_iN, iN_eq_n, n_eq_iN, iN_le_n, iN_lt_n, iN_add, iN_mul, iN_add_l, l_add_iN, l_mul_iN, iN_sub, iN_sub_l, sub1_le, le_F, lt_T, lt_F, le_T, eq_F]
  · intro t ht L H ⟨h2, D, p, q, k, R, l2, l3, l4, l5, l6, l7, l8, l9, l10, l11, l12⟩
    subst l2 l3
    have hs2 := l4.sh
    have b1 := kb_le M (nl := n 6) (age := age) (t := t) bb6 (by omega)
    have b2 := kb_le M (nl := n 6) (age := age) (t := t + 1) bb6 (by omega)
    have b3 : cA M (age + t) (n 6) * k ≤ kb M (n 6) age (t + 1) := Nat.mul_le_mul_left _ l8
    obtain ⟨D2, R2, k2, r1, r2, r3, r4, r5⟩ := c_ta (N := N) (age := age + t) (kn := kn) l4 l5 l6 l7 (by omega) l9 (by omega) hN
    have hI3 := (l4.swp l5).rwc r2
    have e := swH_2 h2 x p q
    refine ⟨_, _, ?_, swH h2 x p q, D2, q, p, k2, R2, rfl, rfl, hI3, by unfold pq at l5 ⊢; omega, e.1, e.2, by omega, r4, fun u => ?_, l11, l12⟩
    · simp -implicitDefEqProofs (disch := first | omega | decide) only [fX1_follow_1b, mB_s, lay_n, lay_i, lay_r, lay_0, lay_l, List.length_cons, List.length_nil, List.cons_append, List.nil_append, sB, kS_l, kS_r, sSeq_a, sNil_a, kSetI_p, sSetI_a, kSetJ_p, sSetJ_a, kSetA_p, sSetA_a, kInc_p, sInc_a, kPut2_p, kPut1_p, sPut_a, kPutC2_p, kPutC1_p, sPutC_a, kAst3_p, kAst2_p, kAst1_p, sAst_a, kAstC3_p, kAstC2_p, kAstC1_p, sAstC_a, kAstZ3_p, kAstZ2_p, kAstZ1_p, sAstZ_a, kAstO3_p, kAstO2_p, kAstO1_p, sAstO_a, kAstA3_p, kAstA2_p, kAstA1_p, sAstA_a, kX_p, sX_a, kIf_p, sIf_a, kRet_p, sRet_a, kRetZ_p, sRetZ_a, sRetV_a, kSw_p, sSw_a, kPutZ2_p, kPutZ1_p, sPutZ_a, eI_a, eJ_a, eN_a, kL_p, eLI_a, eLJ_a, eLA_a, kT2_p, kT_p, eT_a, kP2_p, kP_p, eP_a, kU_p, eU_a, kGet_p, eGet_a, kAld2_p, kAld1_p, eAld_a, kLen_p, eLen_a, kEIf_p, eIf_a, kCast_p, eCast_a, aN_a, kC2_p, kC_p, aC_a, kCS_p, eCallS_a, kCV2_p, kCV1_p, eCallV_a, kN2_p, kN1_p, eNew_a, kNA_p, eNewA_a, kSt3_p, kSt2_p, kSt1_p, eSt_a, kSA2_p, kSA1_p, eSetA_a, eZ_a, eMi_a, kCl_p, eCls_a, kAnd_p, cAnd_a, kOr_p, cOr_a, cNot_a, cZ_a, cNul_a, cNN_a, cAeq_a, cAne_a, kObj_p, sObj_a, kSup2_p, kSup1_p, sSup_a, kCp5_p, kCp4_p, kCp3_p, kCp2_p, kCp1_p, sCpI_a, qEq, qNe, qLt, qGe, qGt, qLe, rGt_s, rLt_s, stL, stL2, kill, List.getElem?_cons_zero, List.getElem?_cons_succ, gI_i, gJ_l, gR_r, gR_0, rf_s, rf_n, Option.bind_some, Option.bind_none, mR_r, cat_i, cat_r, cat_0, cat_d, cat_l, ↓reduceIte, reduceCtorEq, Nat.reduceSub, Nat.reduceAdd, Nat.reduceMul, Nat.reduceLT, Nat.reduceLeDiff, Nat.reduceEqDiff, and_true, true_and, and_false, false_and, or_false, false_or, or_true, true_or, not_true_eq_false, not_false_eq_true, decide_true, decide_false, eq_self, Bool.false_eq_true, decide_eq_true_eq, Bool.and_eq_true, Bool.or_eq_true, Bool.not_eq_true', decide_eq_false_iff_not, decide_not, Bool.not_true, Bool.not_false, Bool.and_true, Bool.true_and, Bool.and_false, Bool.false_and, Bool.or_true, Bool.true_or, Bool.or_false, Bool.false_or, Bool.and_self, Bool.or_self, Bool.true_eq_false, Bool.and_eq_false_imp, Bool.or_eq_false_iff, jI, jJ, jA, o_iadd, o_isub, o_imul, o_iand, o_ior, o_ishl, o_ishr, o_ladd, o_lsub, o_lmul, o_i2l, o_l2i, o_i2b, o_ineg, if_bI, bI_z, bI_01, ifs, if_and, if_or, if_10, bI_zn, bI_nz, ifl, ifcons, ifint, iflong, ite_self, if_inc, Bool.decide_eq_true, Bool.decide_and, Bool.decide_or, xA_hh, xT_hh, xN_hh, xS_hh, xI_0, xI_c, xI_m, xI_o, xJ_0, xJ_m, sI_0, sI_c, sI_m, sI_o, sJ_0, sJ_m, sA_hh, u2_s, u2_n, xT_sI, xT_sA, xN_sI, xN_sA, xA_sI, xI_sA, xI_sI, xA_sA, xN_nw, xT_nw, xT_nn, xI_nw, xI_nn, xA_nw, xA_nn, iN_nat, l_nat, l_lt_T, l_lt_F, l_le_T, l_le_F, l_eq_F, iN_lt, iN_le, iN_eq, iN_lt_l, iN_le_l, iN_eq_l, l_lt_iN, l_le_iN, l_eq_iN, iN_eq_n, n_eq_iN, iN_le_n, iN_lt_n, iN_add, iN_mul, iN_add_l, l_add_iN, l_mul_iN, iN_sub, iN_sub_l, sub1_le, le_F, lt_T, lt_F, le_T, eq_F, st_9 hs, r1, st_9 hs2]
      rfl
    · rw [r5 u]
      constructor
      · rintro ⟨l, i, w1, w2, w3⟩
        exact ⟨l, R i, w1, (l10 _).1 ⟨i, w2, rfl⟩, w3⟩
      · rintro ⟨l, m, w1, w2, w3⟩
        obtain ⟨i, i1, i2⟩ := (l10 m).2 w2
        subst i2
        exact ⟨l, i, w1, i1, w3⟩
end FW
