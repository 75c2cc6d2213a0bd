/-! the class turns all marks; it follows a mark -/
section TV
variable {x N : Nat} {z : Nat × Nat} {h : XH} {C M : Nat → Nat → Int32} {P Q : Nat → Nat → Int64} {A : Nat → Nat → Nat} {n : Nat → Nat} {c : Nat}
def pq (p q : Nat) : Prop := (p = 11 ∧ q = 12) ∨ (p = 12 ∧ q = 11)
theorem Inv.rwc (hI : Inv x z A h C M P Q n c) {D : Nat → Nat → Int32} (hD : ∀ j l, j ≠ 11 → j ≠ 12 → (j ≠ 9 ∨ l ≠ 1) → D j l = C j l) : Inv x z A h D M P Q n c := by
  refine hI.scr0 (fun j l hj => hD j l ?_ ?_ ?_) (fun _ _ _ => rfl) ⟨rfl, rfl⟩ ⟨rfl, rfl⟩
  · intro e; subst e; revert hj; unfold cP; simp
  · intro e; subst e; revert hj; unfold cP; simp
  · left; intro e; subst e; revert hj; unfold cP; simp
theorem c_ta1 {age l k p q : Nat} {R : Nat → Nat} {kn : Int32} (hI : Inv x z A h C M P Q n c) (hl : l < n 6) (hpq : pq p q) (hA : xA h (x + 9) 2 = some (x + q)) (hk : k ≤ 300) (hp : ∀ i, i < k → C p i = iN (R i) ∧ R i < 10000) {k0 : Nat} {R0 : Nat → Nat} (hS : Sl C q k0 R0) (hb : M 37 l = iN age → k0 + k ≤ 300) (hN : 10000 < N) : ∃ D R' k', sLoop (fX1_turnAll_1c N z) (fX1_turnAll_1b N z) N [.ref (x + 9), .int (iN age), .int kn, .ref (x + p), .int (iN k), .int (iN l), .ref (A 6 l), .int 0] (hh x h C M P Q) = some (.inl ([.ref (x + 9), .int (iN age), .int kn, .ref (x + p), .int (iN k), .int (iN l), .ref (A 6 l), .int (iN k)], hh x h D M P Q)) ∧ (∀ j i, j ≠ q → (j ≠ 9 ∨ i ≠ 1) → D j i = C j i) ∧ (k' ≤ k0 + if M 37 l = iN age then k else 0) ∧ Sl D q k' R' ∧ ∀ u, (∃ i, i < k' ∧ R' i = u) ↔ (∃ i, i < k0 ∧ R0 i = u) ∨ ∃ i, i < k ∧ Tn M age kn l (R i) u := by
  have hpq' : p < 65 ∧ q < 65 ∧ p ≠ q ∧ p ≠ 9 ∧ q ≠ 9 ∧ (q = 11 ∨ q = 12) := by unfold pq at hpq; omega
  have tp : xT h (x + p) = (100, 300) := by
    rcases hpq with e | e
    · rw [e.1]; exact st_11 hI.sh
    · rw [e.1]; exact st_12 hI.sh
  have hl := loop_inv (c := fX1_turnAll_1c N z) (b := fX1_turnAll_1b N z) (fun i L H => ∃ D R' k', L = [.ref (x + 9), .int (iN age), .int kn, .ref (x + p), .int (iN k), .int (iN l), .ref (A 6 l), .int (iN i)] ∧ H = hh x h D M P Q ∧ (∀ j i, j ≠ q → (j ≠ 9 ∨ i ≠ 1) → D j i = C j i) ∧ (k' ≤ k0 + if M 37 l = iN age then i else 0) ∧ Sl D q k' R' ∧ ∀ u, (∃ i, i < k' ∧ R' i = u) ↔ (∃ i, i < k0 ∧ R0 i = u) ∨ ∃ i', i' < i ∧ Tn M age kn l (R i') u) k ?_ ?_ (N := N) (L := [.ref (x + 9), .int (iN age), .int kn, .ref (x + p), .int (iN k), .int (iN l), .ref (A 6 l), .int 0]) (h := hh x h C M P Q) (by omega) ⟨C, R0, k0, rfl, rfl, fun _ _ _ _ => rfl, by omega, hS, fun u => ⟨Or.inl, fun w => w.resolve_right (fun ⟨_, q, _⟩ => by omega)⟩⟩
  · obtain ⟨L, H, l1, D, R', k', l2, l3, l4, l5, l6, l7⟩ := hl
    subst l2 l3
    exact ⟨D, R', k', l1, l4, l5, l6, l7⟩
  · intro i hi L H ⟨D, R', k', l2, l3, l4, l5, l6, l7⟩
    subst l2 l3
    by_cases w : i < k
    · rw [show decide (i < k) = true from decide_eq_true w]
      simp -implicitDefEqProofs (disch := first | omega | decide) only [fX1_turnAll_1c, mB_s, lay_n, lay_i, lay_r, lay_0, lay_l, List.length_cons, List.length_nil, List.cons_append, List.nil_append, sB, kS_l, kS_r, sSeq_a, sNil_a, kSetI_p, sSetI_a, kSetJ_p, sSetJ_a, kSetA_p, sSetA_a, kInc_p, sInc_a, kPut2_p, kPut1_p, sPut_a, kPutC2_p, kPutC1_p, sPutC_a, kAst3_p, kAst2_p, kAst1_p, sAst_a, kAstC3_p, kAstC2_p, kAstC1_p, sAstC_a, kAstZ3_p, kAstZ2_p, kAstZ1_p, sAstZ_a, kAstO3_p, kAstO2_p, kAstO1_p, sAstO_a, kAstA3_p, kAstA2_p, kAstA1_p, sAstA_a, kX_p, sX_a, kIf_p, sIf_a, kRet_p, sRet_a, kRetZ_p, sRetZ_a, sRetV_a, kSw_p, sSw_a, kPutZ2_p, kPutZ1_p, sPutZ_a, eI_a, eJ_a, eN_a, kL_p, eLI_a, eLJ_a, eLA_a, kT2_p, kT_p, eT_a, kP2_p, kP_p, eP_a, kU_p, eU_a, kGet_p, eGet_a, kAld2_p, kAld1_p, eAld_a, kLen_p, eLen_a, kEIf_p, eIf_a, kCast_p, eCast_a, aN_a, kC2_p, kC_p, aC_a, kCS_p, eCallS_a, kCV2_p, kCV1_p, eCallV_a, kN2_p, kN1_p, eNew_a, kNA_p, eNewA_a, kSt3_p, kSt2_p, kSt1_p, eSt_a, kSA2_p, kSA1_p, eSetA_a, eZ_a, eMi_a, kCl_p, eCls_a, kAnd_p, cAnd_a, kOr_p, cOr_a, cNot_a, cZ_a, cNul_a, cNN_a, cAeq_a, cAne_a, kObj_p, sObj_a, kSup2_p, kSup1_p, sSup_a, kCp5_p, kCp4_p, kCp3_p, kCp2_p, kCp1_p, sCpI_a, qEq, qNe, qLt, qGe, qGt, qLe, rGt_s, rLt_s, stL, stL2, kill, List.getElem?_cons_zero, List.getElem?_cons_succ, gI_i, gJ_l, gR_r, gR_0, rf_s, rf_n, Option.bind_some, Option.bind_none, mR_r, cat_i, cat_r, cat_0, cat_d, cat_l, ↓reduceIte, reduceCtorEq, Nat.reduceSub, Nat.reduceAdd, Nat.reduceMul, Nat.reduceLT, Nat.reduceLeDiff, Nat.reduceEqDiff, and_true, true_and, and_false, false_and, or_false, false_or, or_true, true_or, not_true_eq_false, not_false_eq_true, decide_true, decide_false, eq_self, Bool.false_eq_true, decide_eq_true_eq, Bool.and_eq_true, Bool.or_eq_true, Bool.not_eq_true', decide_eq_false_iff_not, decide_not, Bool.not_true, Bool.not_false, Bool.and_true, Bool.true_and, Bool.and_false, Bool.false_and, Bool.or_true, Bool.true_or, Bool.or_false, Bool.false_or, Bool.and_self, Bool.or_self, Bool.true_eq_false, Bool.and_eq_false_imp, Bool.or_eq_false_iff, jI, jJ, jA, o_iadd, o_isub, o_imul, o_iand, o_ior, o_ishl, o_ishr, o_ladd, o_lsub, o_lmul, o_i2l, o_l2i, o_i2b, o_ineg, if_bI, bI_z, bI_01, ifs, if_and, if_or, if_10, bI_zn, bI_nz, ifl, ifcons, ifint, iflong, ite_self, if_inc, Bool.decide_eq_true, Bool.decide_and, Bool.decide_or, xA_hh, xT_hh, xN_hh, xS_hh, xI_0, xI_c, xI_m, xI_o, xJ_0, xJ_m, sI_0, sI_c, sI_m, sI_o, sJ_0, sJ_m, sA_hh, u2_s, u2_n, xT_sI, xT_sA, xN_sI, xN_sA, xA_sI, xI_sA, xI_sI, xA_sA, xN_nw, xT_nw, xT_nn, xI_nw, xI_nn, xA_nw, xA_nn, iN_nat, l_nat, l_lt_T, l_lt_F, l_le_T, l_le_F, l_eq_F, iN_lt, iN_le, iN_eq, iN_lt_l, iN_le_l, iN_eq_l, l_lt_iN, l_le_iN, l_eq_iN, iN_eq_n, n_eq_iN, iN_le_n, iN_lt_n, iN_add, iN_mul, iN_add_l, l_add_iN, l_mul_iN, iN_sub, iN_sub_l, sub1_le, le_F, lt_T, lt_F, le_T, eq_F, w]
    · rw [show decide (i < k) = false from decide_eq_false w]
      simp -implicitDefEqProofs (disch := first | omega | decide) only [fX1_turnAll_1c, mB_s, lay_n, lay_i, lay_r, lay_0, lay_l, List.length_cons, List.length_nil, List.cons_append, List.nil_append, sB, kS_l, kS_r, sSeq_a, sNil_a, kSetI_p, sSetI_a, kSetJ_p, sSetJ_a, kSetA_p, sSetA_a, kInc_p, sInc_a, kPut2_p, kPut1_p, sPut_a, kPutC2_p, kPutC1_p, sPutC_a, kAst3_p, kAst2_p, kAst1_p, sAst_a, kAstC3_p, kAstC2_p, kAstC1_p, sAstC_a, kAstZ3_p, kAstZ2_p, kAstZ1_p, sAstZ_a, kAstO3_p, kAstO2_p, kAstO1_p, sAstO_a, kAstA3_p, kAstA2_p, kAstA1_p, sAstA_a, kX_p, sX_a, kIf_p, sIf_a, kRet_p, sRet_a, kRetZ_p, sRetZ_a, sRetV_a, kSw_p, sSw_a, kPutZ2_p, kPutZ1_p, sPutZ_a, eI_a, eJ_a, eN_a, kL_p, eLI_a, eLJ_a, eLA_a, kT2_p, kT_p, eT_a, kP2_p, kP_p, eP_a, kU_p, eU_a, kGet_p, eGet_a, kAld2_p, kAld1_p, eAld_a, kLen_p, eLen_a, kEIf_p, eIf_a, kCast_p, eCast_a, aN_a, kC2_p, kC_p, aC_a, kCS_p, eCallS_a, kCV2_p, kCV1_p, eCallV_a, kN2_p, kN1_p, eNew_a, kNA_p, eNewA_a, kSt3_p, kSt2_p, kSt1_p, eSt_a, kSA2_p, kSA1_p, eSetA_a, eZ_a, eMi_a, kCl_p, eCls_a, kAnd_p, cAnd_a, kOr_p, cOr_a, cNot_a, cZ_a, cNul_a, cNN_a, cAeq_a, cAne_a, kObj_p, sObj_a, kSup2_p, kSup1_p, sSup_a, kCp5_p, kCp4_p, kCp3_p, kCp2_p, kCp1_p, sCpI_a, qEq, qNe, qLt, qGe, qGt, qLe, rGt_s, rLt_s, stL, stL2, kill, List.getElem?_cons_zero, List.getElem?_cons_succ, gI_i, gJ_l, gR_r, gR_0, rf_s, rf_n, Option.bind_some, Option.bind_none, mR_r, cat_i, cat_r, cat_0, cat_d, cat_l, ↓reduceIte, reduceCtorEq, Nat.reduceSub, Nat.reduceAdd, Nat.reduceMul, Nat.reduceLT, Nat.reduceLeDiff, Nat.reduceEqDiff, and_true, true_and, and_false, false_and, or_false, false_or, or_true, true_or, not_true_eq_false, not_false_eq_true, decide_true, decide_false, eq_self, Bool.false_eq_true, decide_eq_true_eq, Bool.and_eq_true, Bool.or_eq_true, Bool.not_eq_true', decide_eq_false_iff_not, decide_not, Bool.not_true, Bool.not_false, Bool.and_true, Bool.true_and, Bool.and_false, Bool.false_and, Bool.or_true, Bool.true_or, Bool.or_false, Bool.false_or, Bool.and_self, Bool.or_self, Bool.true_eq_false, Bool.and_eq_false_imp, Bool.or_eq_false_iff, jI, jJ, jA, o_iadd, o_isub, o_imul, o_iand, o_ior, o_ishl, o_ishr, o_ladd, o_lsub, o_lmul, o_i2l, o_l2i, o_i2b, o_ineg, if_bI, bI_z, bI_01, ifs, if_and, if_or, if_10, bI_zn, bI_nz, ifl, ifcons, ifint, iflong, ite_self, if_inc, Bool.decide_eq_true, Bool.decide_and, Bool.decide_or, xA_hh, xT_hh, xN_hh, xS_hh, xI_0, xI_c, xI_m, xI_o, xJ_0, xJ_m, sI_0, sI_c, sI_m, sI_o, sJ_0, sJ_m, sA_hh, u2_s, u2_n, xT_sI, xT_sA, xN_sI, xN_sA, xA_sI, xI_sA, xI_sI, xA_sA, xN_nw, xT_nw, xT_nn, xI_nw, xI_nn, xA_nw, xA_nn, iN_nat, l_nat, l_lt_T, l_lt_F, l_le_T, l_le_F, l_eq_F, iN_lt, iN_le, iN_eq, iN_lt_l, iN_le_l, iN_eq_l, l_lt_iN, l_le_iN, l_eq_iN, iN_eq_n, n_eq_iN, iN_le_n, iN_lt_n, iN_add, iN_mul, iN_add_l, l_add_iN, l_mul_iN, iN_sub, iN_sub_l, sub1_le, le_F, lt_T, lt_F, le_T, eq_F, w]
  · intro i hi L H ⟨D, R', k', l2, l3, l4, l5, l6, l7⟩
    subst l2 l3
    have hID := hI.rwc (D := D) (fun j l h1 h2 h3 => l4 j l (by omega) h3)
    have hs := hI.sh
    have tl := tg6 hI.dy hl
    have hg := hI.dy.g 6 l
    have y3 := (hI.ln l hl).k3
    obtain ⟨e1, e2⟩ := hp i hi
    have e1 : D p i = iN (R i) := (l4 p i (by omega) (by omega)).trans e1
    rcases c_tn (N := N) hID (age := age) (l := l) (m := R i) kn hl with ⟨v, v1, v2⟩ | ⟨v1, v2⟩
    · have ha := v1.1.2.2
      have hb' := hb ha
      rw [if_pos ha] at l5
      obtain ⟨D2, R2, k2, r1, r2, r3, r4, r5⟩ := c_inc (N := N) (z := z) (M := M) (P := P) (Q := Q) hs hpq'.2.2.2.2.2 hA (k := k') (v := v) (by omega) v1.2.2.2.1 l6 hN
      refine ⟨_, _, ?_, D2, R2, k2, rfl, rfl, fun j i h1 h2 => (r2 j i h1 h2).trans (l4 j i h1 h2), by rw [if_pos ha]; omega, r4, fun u => ?_⟩
      · have v3 := v1.2.2.2.2
        simp -implicitDefEqProofs (disch := first | omega | decide) only [fX1_turnAll_1b, mB_s, lay_n, lay_i, lay_r, lay_0, lay_l, List.length_cons, List.length_nil, List.cons_append, List.nil_append, sB, kS_l, kS_r, sSeq_a, sNil_a, kSetI_p, sSetI_a, kSetJ_p, sSetJ_a, kSetA_p, sSetA_a, kInc_p, sInc_a, kPut2_p, kPut1_p, sPut_a, kPutC2_p, kPutC1_p, sPutC_a, kAst3_p, kAst2_p, kAst1_p, sAst_a, kAstC3_p, kAstC2_p, kAstC1_p, sAstC_a, kAstZ3_p, kAstZ2_p, kAstZ1_p, sAstZ_a, kAstO3_p, kAstO2_p, kAstO1_p, sAstO_a, kAstA3_p, kAstA2_p, kAstA1_p, sAstA_a, kX_p, sX_a, kIf_p, sIf_a, kRet_p, sRet_a, kRetZ_p, sRetZ_a, sRetV_a, kSw_p, sSw_a, kPutZ2_p, kPutZ1_p, sPutZ_a, eI_a, eJ_a, eN_a, kL_p, eLI_a, eLJ_a, eLA_a, kT2_p, kT_p, eT_a, kP2_p, kP_p, eP_a, kU_p, eU_a, kGet_p, eGet_a, kAld2_p, kAld1_p, eAld_a, kLen_p, eLen_a, kEIf_p, eIf_a, kCast_p, eCast_a, aN_a, kC2_p, kC_p, aC_a, kCS_p, eCallS_a, kCV2_p, kCV1_p, eCallV_a, kN2_p, kN1_p, eNew_a, kNA_p, eNewA_a, kSt3_p, kSt2_p, kSt1_p, eSt_a, kSA2_p, kSA1_p, eSetA_a, eZ_a, eMi_a, kCl_p, eCls_a, kAnd_p, cAnd_a, kOr_p, cOr_a, cNot_a, cZ_a, cNul_a, cNN_a, cAeq_a, cAne_a, kObj_p, sObj_a, kSup2_p, kSup1_p, sSup_a, kCp5_p, kCp4_p, kCp3_p, kCp2_p, kCp1_p, sCpI_a, qEq, qNe, qLt, qGe, qGt, qLe, rGt_s, rLt_s, stL, stL2, kill, List.getElem?_cons_zero, List.getElem?_cons_succ, gI_i, gJ_l, gR_r, gR_0, rf_s, rf_n, Option.bind_some, Option.bind_none, mR_r, cat_i, cat_r, cat_0, cat_d, cat_l, ↓reduceIte, reduceCtorEq, Nat.reduceSub, Nat.reduceAdd, Nat.reduceMul, Nat.reduceLT, Nat.reduceLeDiff, Nat.reduceEqDiff, and_true, true_and, and_false, false_and, or_false, false_or, or_true, true_or, not_true_eq_false, not_false_eq_true, decide_true, decide_false, eq_self, Bool.false_eq_true, decide_eq_true_eq, Bool.and_eq_true, Bool.or_eq_true, Bool.not_eq_true', decide_eq_false_iff_not, decide_not, Bool.not_true, Bool.not_false, Bool.and_true, Bool.true_and, Bool.and_false, Bool.false_and, Bool.or_true, Bool.true_or, Bool.or_false, Bool.false_or, Bool.and_self, Bool.or_self, Bool.true_eq_false, Bool.and_eq_false_imp, Bool.or_eq_false_iff, jI, jJ, jA, o_iadd, o_isub, o_imul, o_iand, o_ior, o_ishl, o_ishr, o_ladd, o_lsub, o_lmul, o_i2l, o_l2i, o_i2b, o_ineg, if_bI, bI_z, bI_01, ifs, if_and, if_or, if_10, bI_zn, bI_nz, ifl, ifcons, ifint, iflong, ite_self, if_inc, Bool.decide_eq_true, Bool.decide_and, Bool.decide_or, xA_hh, xT_hh, xN_hh, xS_hh, xI_0, xI_c, xI_m, xI_o, xJ_0, xJ_m, sI_0, sI_c, sI_m, sI_o, sJ_0, sJ_m, sA_hh, u2_s, u2_n, xT_sI, xT_sA, xN_sI, xN_sA, xA_sI, xI_sA, xI_sI, xA_sA, xN_nw, xT_nw, xT_nn, xI_nw, xI_nn, xA_nw, xA_nn, iN_nat, l_nat, l_lt_T, l_lt_F, l_le_T, l_le_F, l_eq_F, iN_lt, iN_le, iN_eq, iN_lt_l, iN_le_l, iN_eq_l, l_lt_iN, l_le_iN, l_eq_iN, iN_eq_n, n_eq_iN, iN_le_n, iN_lt_n, iN_add, iN_mul, iN_add_l, l_add_iN, l_mul_iN, iN_sub, iN_sub_l, sub1_le, le_F, lt_T, lt_F, le_T, eq_F, st_9 hs, tp, e1, v2, v3, r1, tl, xI_o hg, y3, st_9 hs]
      · rw [r5 u, l7 u]
        constructor
        · rintro ((w | ⟨i', w1, w2⟩) | w)
          · exact Or.inl w
          · exact Or.inr ⟨i', by omega, w2⟩
          · subst w; exact Or.inr ⟨i, by omega, v1⟩
        · rintro (w | ⟨i', w1, w2⟩)
          · exact Or.inl (Or.inl w)
          · by_cases e : i' = i
            · subst e; exact Or.inr (Tn_u v1 w2)
            · exact Or.inl (Or.inr ⟨i', by omega, w2⟩)
    · refine ⟨_, _, ?_, D, R', k', rfl, rfl, l4, ?_, l6, fun u => ?_⟩
      · simp -implicitDefEqProofs (disch := first | omega | decide) only [fX1_turnAll_1b, mB_s, lay_n, lay_i, lay_r, lay_0, lay_l, List.length_cons, List.length_nil, List.cons_append, List.nil_append, sB, kS_l, kS_r, sSeq_a, sNil_a, kSetI_p, sSetI_a, kSetJ_p, sSetJ_a, kSetA_p, sSetA_a, kInc_p, sInc_a, kPut2_p, kPut1_p, sPut_a, kPutC2_p, kPutC1_p, sPutC_a, kAst3_p, kAst2_p, kAst1_p, sAst_a, kAstC3_p, kAstC2_p, kAstC1_p, sAstC_a, kAstZ3_p, kAstZ2_p, kAstZ1_p, sAstZ_a, kAstO3_p, kAstO2_p, kAstO1_p, sAstO_a, kAstA3_p, kAstA2_p, kAstA1_p, sAstA_a, kX_p, sX_a, kIf_p, sIf_a, kRet_p, sRet_a, kRetZ_p, sRetZ_a, sRetV_a, kSw_p, sSw_a, kPutZ2_p, kPutZ1_p, sPutZ_a, eI_a, eJ_a, eN_a, kL_p, eLI_a, eLJ_a, eLA_a, kT2_p, kT_p, eT_a, kP2_p, kP_p, eP_a, kU_p, eU_a, kGet_p, eGet_a, kAld2_p, kAld1_p, eAld_a, kLen_p, eLen_a, kEIf_p, eIf_a, kCast_p, eCast_a, aN_a, kC2_p, kC_p, aC_a, kCS_p, eCallS_a, kCV2_p, kCV1_p, eCallV_a, kN2_p, kN1_p, eNew_a, kNA_p, eNewA_a, kSt3_p, kSt2_p, kSt1_p, eSt_a, kSA2_p, kSA1_p, eSetA_a, eZ_a, eMi_a, kCl_p, eCls_a, kAnd_p, cAnd_a, kOr_p, cOr_a, cNot_a, cZ_a, cNul_a, cNN_a, cAeq_a, cAne_a, kObj_p, sObj_a, kSup2_p, kSup1_p, sSup_a, kCp5_p, kCp4_p, kCp3_p, kCp2_p, kCp1_p, sCpI_a, qEq, qNe, qLt, qGe, qGt, qLe, rGt_s, rLt_s, stL, stL2, kill, List.getElem?_cons_zero, List.getElem?_cons_succ, gI_i, gJ_l, gR_r, gR_0, rf_s, rf_n, Option.bind_some, Option.bind_none, mR_r, cat_i, cat_r, cat_0, cat_d, cat_l, ↓reduceIte, reduceCtorEq, Nat.reduceSub, Nat.reduceAdd, Nat.reduceMul, Nat.reduceLT, Nat.reduceLeDiff, Nat.reduceEqDiff, and_true, true_and, and_false, false_and, or_false, false_or, or_true, true_or, not_true_eq_false, not_false_eq_true, decide_true, decide_false, eq_self, Bool.false_eq_true, decide_eq_true_eq, Bool.and_eq_true, Bool.or_eq_true, Bool.not_eq_true', decide_eq_false_iff_not, decide_not, Bool.not_true, Bool.not_false, Bool.and_true, Bool.true_and, Bool.and_false, Bool.false_and, Bool.or_true, Bool.true_or, Bool.or_false, Bool.false_or, Bool.and_self, Bool.or_self, Bool.true_eq_false, Bool.and_eq_false_imp, Bool.or_eq_false_iff, jI, jJ, jA, o_iadd, o_isub, o_imul, o_iand, o_ior, o_ishl, o_ishr, o_ladd, o_lsub, o_lmul, o_i2l, o_l2i, o_i2b, o_ineg, if_bI, bI_z, bI_01, ifs, if_and, if_or, if_10, bI_zn, bI_nz, ifl, ifcons, ifint, iflong, ite_self, if_inc, Bool.decide_eq_true, Bool.decide_and, Bool.decide_or, xA_hh, xT_hh, xN_hh, xS_hh, xI_0, xI_c, xI_m, xI_o, xJ_0, xJ_m, sI_0, sI_c, sI_m, sI_o, sJ_0, sJ_m, sA_hh, u2_s, u2_n, xT_sI, xT_sA, xN_sI, xN_sA, xA_sI, xI_sA, xI_sI, xA_sA, xN_nw, xT_nw, xT_nn, xI_nw, xI_nn, xA_nw, xA_nn, iN_nat, l_nat, l_lt_T, l_lt_F, l_le_T, l_le_F, l_eq_F, iN_lt, iN_le, iN_eq, iN_lt_l, iN_le_l, iN_eq_l, l_lt_iN, l_le_iN, l_eq_iN, iN_eq_n, n_eq_iN, iN_le_n, iN_lt_n, iN_add, iN_mul, iN_add_l, l_add_iN, l_mul_iN, iN_sub, iN_sub_l, sub1_le, le_F, lt_T, lt_F, le_T, eq_F, st_9 hs, tp, e1, v2, tl]
      · by_cases ha : M 37 l = iN age
        · rw [if_pos ha] at l5 ⊢
          omega
        · rw [if_neg ha] at l5 ⊢
          omega
      · rw [l7 u]
        constructor
        · rintro (w | ⟨i', w1, w2⟩)
          · exact Or.inl w
          · exact Or.inr ⟨i', by omega, w2⟩
        · rintro (w | ⟨i', w1, w2⟩)
          · exact Or.inl w
          · by_cases e : i' = i
            · subst e; exact absurd w2 (v1 u)
            · exact Or.inr ⟨i', by omega, w2⟩
def swH (h : XH) (x p q : Nat) : XH := sA (sA h (x + 9) 2 (some (x + q))) (x + 9) 3 (some (x + p))
theorem swH_2 (h : XH) (x p q : Nat) : xA (swH h x p q) (x + 9) 2 = some (x + q) ∧ xA (swH h x p q) (x + 9) 3 = some (x + p) := by
  unfold swH
  simp only [xA_sA]
  refine ⟨?_, u2_s _ _ _ _⟩
  rw [u2_n _ _ (by omega), u2_s]
theorem Inv.swp (hI : Inv x z A h C M P Q n c) {p q : Nat} (hpq : pq p q) : Inv x z A (swH h x p q) C M P Q n c := by
  have e := swH_2 h x p q
  refine hI.sw rfl rfl rfl (fun a k ha => ?_) ?_ ?_
  · unfold swH
    simp only [xA_sA]
    rw [u2_n _ _ (Or.inl ha), u2_n _ _ (Or.inl ha)]
  · unfold swH
    simp only [xA_sA]
    rw [u2_n _ _ (by omega), u2_n _ _ (by omega)]
  · unfold CX
    rw [e.1, e.2]
    rcases hpq with w | w
    · rw [w.1, w.2]; exact Or.inr ⟨rfl, rfl⟩
    · rw [w.1, w.2]; exact Or.inl ⟨rfl, rfl⟩
theorem c_ta {age k p q : Nat} {R : Nat → Nat} {kn : Int32} (hI : Inv x z A h C M P Q n c) (hpq : pq p q) (h2 : xA h (x + 9) 2 = some (x + p)) (h3 : xA h (x + 9) 3 = some (x + q)) (hk : k ≤ 300) (hS : Sl C p k R) (hb : cA M age (n 6) * k ≤ 300) (hN : 10000 < N) : ∃ D R' k', fX1_turnAll N z [.ref (x + 9), .int (iN age), .int kn] (hh x h C M P Q) = some ((), hh x (swH h x p q) D M P Q) ∧ (∀ j i, j ≠ 11 → j ≠ 12 → (j ≠ 9 ∨ i ≠ 1) → D j i = C j i) ∧ k' ≤ cA M age (n 6) * k ∧ Sl D q k' R' ∧ ∀ u, (∃ i, i < k' ∧ R' i = u) ↔ ∃ l i, l < n 6 ∧ i < k ∧ Tn M age kn l (R i) u := by
  have hpq' : p < 65 ∧ q < 65 ∧ p ≠ q ∧ p ≠ 9 ∧ q ≠ 9 := by unfold pq at hpq; omega
  have hpp : (p = 11 ∨ p = 12) ∧ (q = 11 ∨ q = 12) := by unfold pq at hpq; omega
  have hI2 := hI.swp hpq
  have hs := hI.sh
  have hs2 := hI2.sh
  have bb0 := hI.cn.b0; have bb1 := hI.cn.b1; have bb2 := hI.cn.b2; have bb3 := hI.cn.b3; have bb4 := hI.cn.b4; have bb5 := hI.cn.b5; have bb6 := hI.cn.b6
  have eq := swH_2 h x p q
  have s0 : Sl (up2 C 9 1 0) q 0 R := ⟨u2_s _ _ _ _, fun i hi => absurd hi (by omega), fun i hi => absurd hi (by omega), fun i j _ hj => absurd hj (by omega)⟩
  have hl := loop_inv (c := fX1_turnAll_2c N z) (b := fX1_turnAll_2b N z) (fun l L H => ∃ D R' k' a b, L = [.ref (x + 9), .int (iN age), .int kn, .ref (x + p), .int (iN k), .int (iN l), a, b] ∧ H = hh x (swH h x p q) D M P Q ∧ (∀ j i, j ≠ q → (j ≠ 9 ∨ i ≠ 1) → D j i = C j i) ∧ k' ≤ cA M age l * k ∧ Sl D q k' R' ∧ ∀ u, (∃ i, i < k' ∧ R' i = u) ↔ ∃ l' i, l' < l ∧ i < k ∧ Tn M age kn l' (R i) u) (n 6) ?_ ?_ (N := N) (L := [.ref (x + 9), .int (iN age), .int kn, .ref (x + p), .int (iN k), .int 0, xD, xD]) (h := hh x (swH h x p q) (up2 C 9 1 0) M P Q) (by omega) ⟨up2 C 9 1 0, R, 0, xD, xD, rfl, rfl, fun j i h1 h2 => u2_n _ _ h2, Nat.zero_le _, s0, fun u => ⟨fun ⟨_, w, _⟩ => absurd w (by omega), fun ⟨_, _, w, _⟩ => absurd w (by omega)⟩⟩
  · obtain ⟨L, H, l1, D, R', k', a, b, l2, l3, l4, l5, l6, l7⟩ := hl
    subst l2 l3
    refine ⟨D, R', k', ?_, fun j i h1 h2 h3 => l4 j i (by omega) h3, l5, l6, l7⟩
    have e1 := hS.1
    have y1 : sA (sA (hh x h C M P Q) (x + 9) 2 (some (x + q))) (x + 9) 3 (some (x + p)) = hh x (swH h x p q) C M P Q := rfl
    have y2 : xA (sA h (x + 9) 2 (some (x + q))) (x + 9) 3 = some (x + q) := by
      simp only [xA_sA]
      rw [u2_n _ _ (by omega)]
      exact h3
    unfold swH at l1 ⊢
    simp -implicitDefEqProofs (disch := first | omega | decide) only [fX1_turnAll, mB_s, lay_n, lay_i, lay_r, lay_0, lay_l, List.length_cons, List.length_nil, List.cons_append, List.nil_append, sB, kS_l, kS_r, sSeq_a, sNil_a, kSetI_p, sSetI_a, kSetJ_p, sSetJ_a, kSetA_p, sSetA_a, kInc_p, sInc_a, kPut2_p, kPut1_p, sPut_a, kPutC2_p, kPutC1_p, sPutC_a, kAst3_p, kAst2_p, kAst1_p, sAst_a, kAstC3_p, kAstC2_p, kAstC1_p, sAstC_a, kAstZ3_p, kAstZ2_p, kAstZ1_p, sAstZ_a, kAstO3_p, kAstO2_p, kAstO1_p, sAstO_a, kAstA3_p, kAstA2_p, kAstA1_p, sAstA_a, kX_p, sX_a, kIf_p, sIf_a, kRet_p, sRet_a, kRetZ_p, sRetZ_a, sRetV_a, kSw_p, sSw_a, kPutZ2_p, kPutZ1_p, sPutZ_a, eI_a, eJ_a, eN_a, kL_p, eLI_a, eLJ_a, eLA_a, kT2_p, kT_p, eT_a, kP2_p, kP_p, eP_a, kU_p, eU_a, kGet_p, eGet_a, kAld2_p, kAld1_p, eAld_a, kLen_p, eLen_a, kEIf_p, eIf_a, kCast_p, eCast_a, aN_a, kC2_p, kC_p, aC_a, kCS_p, eCallS_a, kCV2_p, kCV1_p, eCallV_a, kN2_p, kN1_p, eNew_a, kNA_p, eNewA_a, kSt3_p, kSt2_p, kSt1_p, eSt_a, kSA2_p, kSA1_p, eSetA_a, eZ_a, eMi_a, kCl_p, eCls_a, kAnd_p, cAnd_a, kOr_p, cOr_a, cNot_a, cZ_a, cNul_a, cNN_a, cAeq_a, cAne_a, kObj_p, sObj_a, kSup2_p, kSup1_p, sSup_a, kCp5_p, kCp4_p, kCp3_p, kCp2_p, kCp1_p, sCpI_a, qEq, qNe, qLt, qGe, qGt, qLe, rGt_s, rLt_s, stL, stL2, kill, List.getElem?_cons_zero, List.getElem?_cons_succ, gI_i, gJ_l, gR_r, gR_0, rf_s, rf_n, Option.bind_some, Option.bind_none, mR_r, cat_i, cat_r, cat_0, cat_d, cat_l, ↓reduceIte, reduceCtorEq, Nat.reduceSub, Nat.reduceAdd, Nat.reduceMul, Nat.reduceLT, Nat.reduceLeDiff, Nat.reduceEqDiff, and_true, true_and, and_false, false_and, or_false, false_or, or_true, true_or, not_true_eq_false, not_false_eq_true, decide_true, decide_false, eq_self, Bool.false_eq_true, decide_eq_true_eq, Bool.and_eq_true, Bool.or_eq_true, Bool.not_eq_true', decide_eq_false_iff_not, decide_not, Bool.not_true, Bool.not_false, Bool.and_true, Bool.true_and, Bool.and_false, Bool.false_and, Bool.or_true, Bool.true_or, Bool.or_false, Bool.false_or, Bool.and_self, Bool.or_self, Bool.true_eq_false, Bool.and_eq_false_imp, Bool.or_eq_false_iff, jI, jJ, jA, o_iadd, o_isub, o_imul, o_iand, o_ior, o_ishl, o_ishr, o_ladd, o_lsub, o_lmul, o_i2l, o_l2i, o_i2b, o_ineg, if_bI, bI_z, bI_01, ifs, if_and, if_or, if_10, bI_zn, bI_nz, ifl, ifcons, ifint, iflong, ite_self, if_inc, Bool.decide_eq_true, Bool.decide_and, Bool.decide_or, xA_hh, xT_hh, xN_hh, xS_hh, xI_0, xI_c, xI_m, xI_o, xJ_0, xJ_m, sI_0, sI_c, sI_m, sI_o, sJ_0, sJ_m, sA_hh, u2_s, u2_n, xT_sI, xT_sA, xN_sI, xN_sA, xA_sI, xI_sA, xI_sI, xA_sA, xN_nw, xT_nw, xT_nn, xI_nw, xI_nn, xA_nw, xA_nn, iN_nat, l_nat, l_lt_T, l_lt_F, l_le_T, l_le_F, l_eq_F, iN_lt, iN_le, iN_eq, iN_lt_l, iN_le_l, iN_eq_l, l_lt_iN, l_le_iN, l_eq_iN, iN_eq_n, n_eq_iN, iN_le_n, iN_lt_n, iN_add, iN_mul, iN_add_l, l_add_iN, l_mul_iN, iN_sub, iN_sub_l, sub1_le, le_F, lt_T, lt_F, le_T, eq_F, st_9 hs, h2, h3, e1, st_9 hs, l1]
  · intro l hl L H ⟨D, R', k', a, b, l2, l3, l4, l5, l6, l7⟩
    subst l2 l3
    have hI3 := hI2.rwc (D := D) (fun j l h1 h2 h3 => l4 j l (by omega) h3)
    have y1 := c_sz6 (N := N) (z := z) (M := M) (P := P) (Q := Q) hs2 hI3.cn.c6
    simp -implicitDefEqProofs (disch := first | omega | decide) only [fX1_turnAll_2c, mB_s, lay_n, lay_i, lay_r, lay_0, lay_l, List.length_cons, List.length_nil, List.cons_append, List.nil_append, sB, kS_l, kS_r, sSeq_a, sNil_a, kSetI_p, sSetI_a, kSetJ_p, sSetJ_a, kSetA_p, sSetA_a, kInc_p, sInc_a, kPut2_p, kPut1_p, sPut_a, kPutC2_p, kPutC1_p, sPutC_a, kAst3_p, kAst2_p, kAst1_p, sAst_a, kAstC3_p, kAstC2_p, kAstC1_p, sAstC_a, kAstZ3_p, kAstZ2_p, kAstZ1_p, sAstZ_a, kAstO3_p, kAstO2_p, kAstO1_p, sAstO_a, kAstA3_p, kAstA2_p, kAstA1_p, sAstA_a, kX_p, sX_a, kIf_p, sIf_a, kRet_p, sRet_a, kRetZ_p, sRetZ_a, sRetV_a, kSw_p, sSw_a, kPutZ2_p, kPutZ1_p, sPutZ_a, eI_a, eJ_a, eN_a, kL_p, eLI_a, eLJ_a, eLA_a, kT2_p, kT_p, eT_a, kP2_p, kP_p, eP_a, kU_p, eU_a, kGet_p, eGet_a, kAld2_p, kAld1_p, eAld_a, kLen_p, eLen_a, kEIf_p, eIf_a, kCast_p, eCast_a, aN_a, kC2_p, kC_p, aC_a, kCS_p, eCallS_a, kCV2_p, kCV1_p, eCallV_a, kN2_p, kN1_p, eNew_a, kNA_p, eNewA_a, kSt3_p, kSt2_p, kSt1_p, eSt_a, kSA2_p, kSA1_p, eSetA_a, eZ_a, eMi_a, kCl_p, eCls_a, kAnd_p, cAnd_a, kOr_p, cOr_a, cNot_a, cZ_a, cNul_a, cNN_a, cAeq_a, cAne_a, kObj_p, sObj_a, kSup2_p, kSup1_p, sSup_a, kCp5_p, kCp4_p, kCp3_p, kCp2_p, kCp1_p, sCpI_a, qEq, qNe, qLt, qGe, qGt, qLe, rGt_s, rLt_s, stL, stL2, kill, List.getElem?_cons_zero, List.getElem?_cons_succ, gI_i, gJ_l, gR_r, gR_0, rf_s, rf_n, Option.bind_some, Option.bind_none, mR_r, cat_i, cat_r, cat_0, cat_d, cat_l, ↓reduceIte, reduceCtorEq, Nat.reduceSub, Nat.reduceAdd, Nat.reduceMul, Nat.reduceLT, Nat.reduceLeDiff, Nat.reduceEqDiff, and_true, true_and, and_false, false_and, or_false, false_or, or_true, true_or, not_true_eq_false, not_false_eq_true, decide_true, decide_false, eq_self, Bool.false_eq_true, decide_eq_true_eq, Bool.and_eq_true, Bool.or_eq_true, Bool.not_eq_true', decide_eq_false_iff_not, decide_not, Bool.not_true, Bool.not_false, Bool.and_true, Bool.true_and, Bool.and_false, Bool.false_and, Bool.or_true, Bool.true_or, Bool.or_false, Bool.false_or, Bool.and_self, Bool.or_self, Bool.true_eq_false, Bool.and_eq_false_imp, Bool.or_eq_false_iff, jI, jJ, jA, o_iadd, o_isub, o_imul, o_iand, o_ior, o_ishl, o_ishr, o_ladd, o_lsub, o_lmul, o_i2l, o_l2i, o_i2b, o_ineg, if_bI, bI_z, bI_01, ifs, if_and, if_or, if_10, bI_zn, bI_nz, ifl, ifcons, ifint, iflong, ite_self, if_inc, Bool.decide_eq_true, Bool.decide_and, Bool.decide_or, xA_hh, xT_hh, xN_hh, xS_hh, xI_0, xI_c, xI_m, xI_o, xJ_0, xJ_m, sI_0, sI_c, sI_m, sI_o, sJ_0, sJ_m, sA_hh, u2_s, u2_n, xT_sI, xT_sA, xN_sI, xN_sA, xA_sI, xI_sA, xI_sI, xA_sA, xN_nw, xT_nw, xT_nn, xI_nw, xI_nn, xA_nw, xA_nn, iN_nat, l_nat, l_lt_T, l_lt_F, l_le_T, l_le_F, l_eq_F, iN_lt, iN_le, iN_eq, iN_lt_l, iN_le_l, iN_eq_l, l_lt_iN, l_le_iN, l_eq_iN, iN_eq_n, n_eq_iN, iN_le_n, iN_lt_n, iN_add, iN_mul, iN_add_l, l_add_iN, l_mul_iN, iN_sub, iN_sub_l, sub1_le, le_F, lt_T, lt_F, le_T, eq_F, sa_9_0 hs, st_10 hs, st_9 hs, y1, st_9 hs2, sa_9_0 hs2, st_10 hs2]
  · intro l hl L H ⟨D, R', k', a, b, l2, l3, l4, l5, l6, l7⟩
    subst l2 l3
    have hI3 := hI2.rwc (D := D) (fun j l h1 h2 h3 => l4 j l (by omega) h3)
    have y1 := c_get6 (N := N) (z := z) (M := M) (P := P) (Q := Q) hs2 hI3.dy hI3.cn.c6 hI3.cn.b6 hl
    have tl := tg6 hI3.dy hl
    have cm := cA_mo M age (a := l + 1) (b := n 6) (by omega)
    have cs := cA_s M age l
    obtain ⟨D2, R2, k2, r1, r2, r3, r4, r5⟩ := c_ta1 (N := N) (kn := kn) hI3 (age := age) (k := k) (R := R) hl hpq eq.1 hk (fun i hi => ⟨(l4 p i (by omega) (by omega)).trans (hS.2.1 i hi), hS.2.2.1 i hi⟩) l6 (fun ha => by
      rw [if_pos ha] at cs
      have : (cA M age l + 1) * k ≤ cA M age (n 6) * k := Nat.mul_le_mul_right k (by omega)
      rw [Nat.add_mul] at this
      omega) hN
    refine ⟨_, _, ?_, D2, R2, k2, .ref (A 6 l), .int (iN k), rfl, rfl, fun j i h1 h2 => (r2 j i h1 h2).trans (l4 j i h1 h2), ?_, r4, fun u => ?_⟩
    · simp -implicitDefEqProofs (disch := first | omega | decide) only [fX1_turnAll_2b, mB_s, lay_n, lay_i, lay_r, lay_0, lay_l, List.length_cons, List.length_nil, List.cons_append, List.nil_append, sB, kS_l, kS_r, sSeq_a, sNil_a, kSetI_p, sSetI_a, kSetJ_p, sSetJ_a, kSetA_p, sSetA_a, kInc_p, sInc_a, kPut2_p, kPut1_p, sPut_a, kPutC2_p, kPutC1_p, sPutC_a, kAst3_p, kAst2_p, kAst1_p, sAst_a, kAstC3_p, kAstC2_p, kAstC1_p, sAstC_a, kAstZ3_p, kAstZ2_p, kAstZ1_p, sAstZ_a, kAstO3_p, kAstO2_p, kAstO1_p, sAstO_a, kAstA3_p, kAstA2_p, kAstA1_p, sAstA_a, kX_p, sX_a, kIf_p, sIf_a, kRet_p, sRet_a, kRetZ_p, sRetZ_a, sRetV_a, kSw_p, sSw_a, kPutZ2_p, kPutZ1_p, sPutZ_a, eI_a, eJ_a, eN_a, kL_p, eLI_a, eLJ_a, eLA_a, kT2_p, kT_p, eT_a, kP2_p, kP_p, eP_a, kU_p, eU_a, kGet_p, eGet_a, kAld2_p, kAld1_p, eAld_a, kLen_p, eLen_a, kEIf_p, eIf_a, kCast_p, eCast_a, aN_a, kC2_p, kC_p, aC_a, kCS_p, eCallS_a, kCV2_p, kCV1_p, eCallV_a, kN2_p, kN1_p, eNew_a, kNA_p, eNewA_a, kSt3_p, kSt2_p, kSt1_p, eSt_a, kSA2_p, kSA1_p, eSetA_a, eZ_a, eMi_a, kCl_p, eCls_a, kAnd_p, cAnd_a, kOr_p, cOr_a, cNot_a, cZ_a, cNul_a, cNN_a, cAeq_a, cAne_a, kObj_p, sObj_a, kSup2_p, kSup1_p, sSup_a, kCp5_p, kCp4_p, kCp3_p, kCp2_p, kCp1_p, sCpI_a, qEq, qNe, qLt, qGe, qGt, qLe, rGt_s, rLt_s, stL, stL2, kill, List.getElem?_cons_zero, List.getElem?_cons_succ, gI_i, gJ_l, gR_r, gR_0, rf_s, rf_n, Option.bind_some, Option.bind_none, mR_r, cat_i, cat_r, cat_0, cat_d, cat_l, ↓reduceIte, reduceCtorEq, Nat.reduceSub, Nat.reduceAdd, Nat.reduceMul, Nat.reduceLT, Nat.reduceLeDiff, Nat.reduceEqDiff, and_true, true_and, and_false, false_and, or_false, false_or, or_true, true_or, not_true_eq_false, not_false_eq_true, decide_true, decide_false, eq_self, Bool.false_eq_true, decide_eq_true_eq, Bool.and_eq_true, Bool.or_eq_true, Bool.not_eq_true', decide_eq_false_iff_not, decide_not, Bool.not_true, Bool.not_false, Bool.and_true, Bool.true_and, Bool.and_false, Bool.false_and, Bool.or_true, Bool.true_or, Bool.or_false, Bool.false_or, Bool.and_self, Bool.or_self, Bool.true_eq_false, Bool.and_eq_false_imp, Bool.or_eq_false_iff, jI, jJ, jA, o_iadd, o_isub, o_imul, o_iand, o_ior, o_ishl, o_ishr, o_ladd, o_lsub, o_lmul, o_i2l, o_l2i, o_i2b, o_ineg, if_bI, bI_z, bI_01, ifs, if_and, if_or, if_10, bI_zn, bI_nz, ifl, ifcons, ifint, iflong, ite_self, if_inc, Bool.decide_eq_true, Bool.decide_and, Bool.decide_or, xA_hh, xT_hh, xN_hh, xS_hh, xI_0, xI_c, xI_m, xI_o, xJ_0, xJ_m, sI_0, sI_c, sI_m, sI_o, sJ_0, sJ_m, sA_hh, u2_s, u2_n, xT_sI, xT_sA, xN_sI, xN_sA, xA_sI, xI_sA, xI_sI, xA_sA, xN_nw, xT_nw, xT_nn, xI_nw, xI_nn, xA_nw, xA_nn, iN_nat, l_nat, l_lt_T, l_lt_F, l_le_T, l_le_F, l_eq_F, iN_lt, iN_le, iN_eq, iN_lt_l, iN_le_l, iN_eq_l, l_lt_iN, l_le_iN, l_eq_iN, iN_eq_n, n_eq_iN, iN_le_n, iN_lt_n, iN_add, iN_mul, iN_add_l, l_add_iN, l_mul_iN, iN_sub, iN_sub_l, sub1_le, le_F, lt_T, lt_F, le_T, eq_F, sa_9_0 hs, st_10 hs, st_9 hs, y1, tl, r1, st_9 hs2, sa_9_0 hs2, st_10 hs2]
    · rw [cs]
      split at r3
      · rename_i ha
        rw [if_pos ha, Nat.add_mul]
        omega
      · rename_i ha
        rw [if_neg ha]
        show k2 ≤ cA M age l * k
        omega
    · rw [r5 u, l7 u]
      constructor
      · rintro (⟨l', i, w1, w2, w3⟩ | ⟨i, w1, w2⟩)
        · exact ⟨l', i, by omega, w2, w3⟩
        · exact ⟨l, i, by omega, w1, w2⟩
      · rintro ⟨l', i, w1, w2, w3⟩
        by_cases e : l' = l
        · subst e; exact Or.inr ⟨i, w2, w3⟩
        · exact Or.inl ⟨l', i, by omega, w2, w3⟩
end TV
