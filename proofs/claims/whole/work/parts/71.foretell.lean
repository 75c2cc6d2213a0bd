/-! the class foretells -/
section FC
variable {x N : Nat} {z : Nat × Nat} {h : XH} {C M : Nat → Nat → Int32} {P Q : Nat → Nat → Int64} {A : Nat → Nat → Nat} {n : Nat → Nat} {c : Nat}
theorem wn_ex (M : Nat → Nat → Int32) : ∀ m k, k < q_wn M m → ∃ s, s < m ∧ M 23 s = 0 ∧ q_wn M s = k
  | 0, k, h => absurd h (by unfold q_wn; omega)
  | m + 1, k, h => by
    rw [wn_s] at h
    by_cases e : M 23 m = 0
    · rw [if_pos e] at h
      by_cases e2 : k = q_wn M m
      · exact ⟨m, by omega, e, e2.symm⟩
      · obtain ⟨s, h1, h2, h3⟩ := wn_ex M m k (by omega)
        exact ⟨s, by omega, h2, h3⟩
    · rw [if_neg e] at h
      obtain ⟨s, h1, h2, h3⟩ := wn_ex M m k h
      exact ⟨s, by omega, h2, h3⟩
theorem wn_in {a b : Nat} (h1 : M 23 a = 0) (h2 : M 23 b = 0) (e : q_wn M a = q_wn M b) : a = b := by
  rcases Nat.lt_trichotomy a b with h | h | h
  · have := wn_lt M h1 b h
    omega
  · exact h
  · have := wn_lt M h2 a h
    omega
theorem wn_pick (hI : Inv x z A h C M P Q n c) {D : Nat → Nat → Int32} (g : GI M C D (n 1)) : ∃ d : Nat → Nat, ∀ k, k < q_wn M (n 1) → D 17 k = iN (d k) ∧ d k ≤ 3 ∧ ∀ s, s < n 1 → M 23 s = 0 → q_wn M s = k → d k = rp M s := by
  refine ⟨fun k => (D 17 k).toNatClampNeg, fun k hk => ?_⟩
  obtain ⟨s, h1, h2, h3⟩ := wn_ex M (n 1) k hk
  have e := g.v s h1 h2
  obtain ⟨p1, p2⟩ := rn_p hI h1
  rw [h3, p1] at e
  have e2 : (D 17 k).toNatClampNeg = rp M s := by rw [e, iN_nat (by omega)]
  show D 17 k = iN (D 17 k).toNatClampNeg ∧ (D 17 k).toNatClampNeg ≤ 3 ∧ ∀ s, s < n 1 → M 23 s = 0 → q_wn M s = k → (D 17 k).toNatClampNeg = rp M s
  rw [e2]
  refine ⟨e, p2, fun s2 a1 a2 a3 => ?_⟩
  rw [wn_in h2 a2 (h3.trans a3.symm)]
def fz (T v d : Nat → Nat) (k : Nat) : Nat := fe (kZ T v d k) v (d k) (fq (kZ T v d k) v (d k) 2)
def fy (T v d : Nat → Nat) : Nat → Nat
  | 0 => 0
  | k + 1 => fz T v d k
theorem fT_q (T v : Nat → Nat) (p : Nat) : fT T v p (fq T v p 2) = fe T v p (fq T v p 2) := if_pos rfl
theorem fT_n (T v : Nat → Nat) (p : Nat) {l : Nat} (hl : l ≠ fq T v p 2) : fT T v p l = T l := if_neg hl
theorem c_ft (hs : Shp x h) {m wt : Nat} {T v d : Nat → Nat} (hm : m ≤ 24) (hw : wt < m) (e3 : C 13 3 = iN m) (e14 : ∀ l, l < 3 → C 14 l = iN (v l)) (e15 : ∀ l, l < 3 → C 15 l = iN (T l)) (e17 : ∀ k, k < m → C 17 k = iN (d k)) (bT : ∀ l, l < 3 → T l ≤ 99999) (bv : ∀ l, l < 3 → v l ≤ 9) (bd : ∀ k, k < m → d k ≤ 3) (hN : 10000 < N) : ∃ D, (∀ j l, j ≠ 19 → D j l = C j l) ∧ fX7_foretold N z [.ref (x + 13), .int (iN wt)] (hh x h C M P Q) = some (iN (fz T v d wt), hh x h D M P Q) := by
  have hl := loop_inv (c := fX7_foretold_2c N z) (b := fX7_foretold_2b N z) (fun k L H => ∃ D a b, L = [.ref (x + 13), .int (iN wt), .int (iN (fy T v d k)), .int (iN k), a, b] ∧ H = hh x h D M P Q ∧ (∀ j l, j ≠ 19 → D j l = C j l) ∧ ∀ l, l < 3 → D 19 l = iN (kZ T v d k l)) (wt + 1) ?_ ?_ (N := N) (L := [.ref (x + 13), .int (iN wt), .int 0, .int 0, xD, xD]) (h := hh x h (bgC C 3) M P Q) (by omega) ⟨bgC C 3, xD, xD, rfl, rfl, fun j l hj => bgC_n C 3 hj, fun l hl => ?_⟩
  · obtain ⟨L, H, l1, D, a, b, l2, l3, l4, l5⟩ := hl
    subst l2 l3
    refine ⟨D, l4, ?_⟩
    have y1 : fy T v d (wt + 1) = fz T v d wt := rfl
    rw [y1] at l1
    simp -implicitDefEqProofs (disch := first | omega | decide) only [fX7_foretold, mB_s, lay_n, lay_i, lay_r, lay_0, lay_l, List.length_cons, List.length_nil, List.cons_append, List.nil_append, sB, kS_l, kS_r, sSeq_a, sNil_a, kSetI_p, sSetI_a, kSetJ_p, sSetJ_a, kSetA_p, sSetA_a, kInc_p, sInc_a, kPut2_p, kPut1_p, sPut_a, kPutC2_p, kPutC1_p, sPutC_a, kAst3_p, kAst2_p, kAst1_p, sAst_a, kAstC3_p, kAstC2_p, kAstC1_p, sAstC_a, kAstZ3_p, kAstZ2_p, kAstZ1_p, sAstZ_a, kAstO3_p, kAstO2_p, kAstO1_p, sAstO_a, kAstA3_p, kAstA2_p, kAstA1_p, sAstA_a, kX_p, sX_a, kIf_p, sIf_a, kRet_p, sRet_a, kRetZ_p, sRetZ_a, sRetV_a, kSw_p, sSw_a, kPutZ2_p, kPutZ1_p, sPutZ_a, eI_a, eJ_a, eN_a, kL_p, eLI_a, eLJ_a, eLA_a, kT2_p, kT_p, eT_a, kP2_p, kP_p, eP_a, kU_p, eU_a, kGet_p, eGet_a, kAld2_p, kAld1_p, eAld_a, kLen_p, eLen_a, kEIf_p, eIf_a, kCast_p, eCast_a, aN_a, kC2_p, kC_p, aC_a, kCS_p, eCallS_a, kCV2_p, kCV1_p, eCallV_a, kN2_p, kN1_p, eNew_a, kNA_p, eNewA_a, kSt3_p, kSt2_p, kSt1_p, eSt_a, kSA2_p, kSA1_p, eSetA_a, eZ_a, eMi_a, kCl_p, eCls_a, kAnd_p, cAnd_a, kOr_p, cOr_a, cNot_a, cZ_a, cNul_a, cNN_a, cAeq_a, cAne_a, kObj_p, sObj_a, kSup2_p, kSup1_p, sSup_a, kCp5_p, kCp4_p, kCp3_p, kCp2_p, kCp1_p, sCpI_a, qEq, qNe, qLt, qGe, qGt, qLe, rGt_s, rLt_s, stL, stL2, kill, List.getElem?_cons_zero, List.getElem?_cons_succ, gI_i, gJ_l, gR_r, gR_0, rf_s, rf_n, Option.bind_some, Option.bind_none, mR_r, cat_i, cat_r, cat_0, cat_d, cat_l, ↓reduceIte, reduceCtorEq, Nat.reduceSub, Nat.reduceAdd, Nat.reduceMul, Nat.reduceLT, Nat.reduceLeDiff, Nat.reduceEqDiff, and_true, true_and, and_false, false_and, or_false, false_or, or_true, true_or, not_true_eq_false, not_false_eq_true, decide_true, decide_false, eq_self, Bool.false_eq_true, decide_eq_true_eq, Bool.and_eq_true, Bool.or_eq_true, Bool.not_eq_true', decide_eq_false_iff_not, decide_not, Bool.not_true, Bool.not_false, Bool.and_true, Bool.true_and, Bool.and_false, Bool.false_and, Bool.or_true, Bool.true_or, Bool.or_false, Bool.false_or, Bool.and_self, Bool.or_self, Bool.true_eq_false, Bool.and_eq_false_imp, Bool.or_eq_false_iff, jI, jJ, jA, o_iadd, o_isub, o_imul, o_iand, o_ior, o_ishl, o_ishr, o_ladd, o_lsub, o_lmul, o_i2l, o_l2i, o_i2b, o_ineg, if_bI, bI_z, bI_01, ifs, if_and, if_or, if_10, bI_zn, bI_nz, ifl, ifcons, ifint, iflong, ite_self, if_inc, Bool.decide_eq_true, Bool.decide_and, Bool.decide_or, xA_hh, xT_hh, xN_hh, xS_hh, xI_0, xI_c, xI_m, xI_o, xJ_0, xJ_m, sI_0, sI_c, sI_m, sI_o, sJ_0, sJ_m, sA_hh, u2_s, u2_n, xT_sI, xT_sA, xN_sI, xN_sA, xA_sI, xI_sA, xI_sI, xA_sA, xN_nw, xT_nw, xT_nn, xI_nw, xI_nn, xA_nw, xA_nn, iN_nat, l_nat, l_lt_T, l_lt_F, l_le_T, l_le_F, l_eq_F, iN_lt, iN_le, iN_eq, iN_lt_l, iN_le_l, iN_eq_l, l_lt_iN, l_le_iN, l_eq_iN, iN_eq_n, n_eq_iN, iN_le_n, iN_lt_n, iN_add, iN_mul, iN_add_l, l_add_iN, l_mul_iN, iN_sub, iN_sub_l, sub1_le, le_F, lt_T, lt_F, le_T, eq_F, st_13 hs, c_bg hs hN, l1, st_13 hs]
  · intro k hk L H ⟨D, a, b, l2, l3, l4, l5⟩
    subst l2 l3
    have y1 : D 13 3 = iN m := (l4 _ _ (by omega)).trans e3
    by_cases w : k ≤ wt
    · rw [show decide (k < wt + 1) = true from decide_eq_true (by omega)]
      simp -implicitDefEqProofs (disch := first | omega | decide) only [fX7_foretold_2c, mB_s, lay_n, lay_i, lay_r, lay_0, lay_l, List.length_cons, List.length_nil, List.cons_append, List.nil_append, sB, kS_l, kS_r, sSeq_a, sNil_a, kSetI_p, sSetI_a, kSetJ_p, sSetJ_a, kSetA_p, sSetA_a, kInc_p, sInc_a, kPut2_p, kPut1_p, sPut_a, kPutC2_p, kPutC1_p, sPutC_a, kAst3_p, kAst2_p, kAst1_p, sAst_a, kAstC3_p, kAstC2_p, kAstC1_p, sAstC_a, kAstZ3_p, kAstZ2_p, kAstZ1_p, sAstZ_a, kAstO3_p, kAstO2_p, kAstO1_p, sAstO_a, kAstA3_p, kAstA2_p, kAstA1_p, sAstA_a, kX_p, sX_a, kIf_p, sIf_a, kRet_p, sRet_a, kRetZ_p, sRetZ_a, sRetV_a, kSw_p, sSw_a, kPutZ2_p, kPutZ1_p, sPutZ_a, eI_a, eJ_a, eN_a, kL_p, eLI_a, eLJ_a, eLA_a, kT2_p, kT_p, eT_a, kP2_p, kP_p, eP_a, kU_p, eU_a, kGet_p, eGet_a, kAld2_p, kAld1_p, eAld_a, kLen_p, eLen_a, kEIf_p, eIf_a, kCast_p, eCast_a, aN_a, kC2_p, kC_p, aC_a, kCS_p, eCallS_a, kCV2_p, kCV1_p, eCallV_a, kN2_p, kN1_p, eNew_a, kNA_p, eNewA_a, kSt3_p, kSt2_p, kSt1_p, eSt_a, kSA2_p, kSA1_p, eSetA_a, eZ_a, eMi_a, kCl_p, eCls_a, kAnd_p, cAnd_a, kOr_p, cOr_a, cNot_a, cZ_a, cNul_a, cNN_a, cAeq_a, cAne_a, kObj_p, sObj_a, kSup2_p, kSup1_p, sSup_a, kCp5_p, kCp4_p, kCp3_p, kCp2_p, kCp1_p, sCpI_a, qEq, qNe, qLt, qGe, qGt, qLe, rGt_s, rLt_s, stL, stL2, kill, List.getElem?_cons_zero, List.getElem?_cons_succ, gI_i, gJ_l, gR_r, gR_0, rf_s, rf_n, Option.bind_some, Option.bind_none, mR_r, cat_i, cat_r, cat_0, cat_d, cat_l, ↓reduceIte, reduceCtorEq, Nat.reduceSub, Nat.reduceAdd, Nat.reduceMul, Nat.reduceLT, Nat.reduceLeDiff, Nat.reduceEqDiff, and_true, true_and, and_false, false_and, or_false, false_or, or_true, true_or, not_true_eq_false, not_false_eq_true, decide_true, decide_false, eq_self, Bool.false_eq_true, decide_eq_true_eq, Bool.and_eq_true, Bool.or_eq_true, Bool.not_eq_true', decide_eq_false_iff_not, decide_not, Bool.not_true, Bool.not_false, Bool.and_true, Bool.true_and, Bool.and_false, Bool.false_and, Bool.or_true, Bool.true_or, Bool.or_false, Bool.false_or, Bool.and_self, Bool.or_self, Bool.true_eq_false, Bool.and_eq_false_imp, Bool.or_eq_false_iff, jI, jJ, jA, o_iadd, o_isub, o_imul, o_iand, o_ior, o_ishl, o_ishr, o_ladd, o_lsub, o_lmul, o_i2l, o_l2i, o_i2b, o_ineg, if_bI, bI_z, bI_01, ifs, if_and, if_or, if_10, bI_zn, bI_nz, ifl, ifcons, ifint, iflong, ite_self, if_inc, Bool.decide_eq_true, Bool.decide_and, Bool.decide_or, xA_hh, xT_hh, xN_hh, xS_hh, xI_0, xI_c, xI_m, xI_o, xJ_0, xJ_m, sI_0, sI_c, sI_m, sI_o, sJ_0, sJ_m, sA_hh, u2_s, u2_n, xT_sI, xT_sA, xN_sI, xN_sA, xA_sI, xI_sA, xI_sI, xA_sA, xN_nw, xT_nw, xT_nn, xI_nw, xI_nn, xA_nw, xA_nn, iN_nat, l_nat, l_lt_T, l_lt_F, l_le_T, l_le_F, l_eq_F, iN_lt, iN_le, iN_eq, iN_lt_l, iN_le_l, iN_eq_l, l_lt_iN, l_le_iN, l_eq_iN, iN_eq_n, n_eq_iN, iN_le_n, iN_lt_n, iN_add, iN_mul, iN_add_l, l_add_iN, l_mul_iN, iN_sub, iN_sub_l, sub1_le, le_F, lt_T, lt_F, le_T, eq_F, st_13 hs, y1, w, st_13 hs]
    · rw [show decide (k < wt + 1) = false from decide_eq_false (by omega)]
      simp -implicitDefEqProofs (disch := first | omega | decide) only [fX7_foretold_2c, mB_s, lay_n, lay_i, lay_r, lay_0, lay_l, List.length_cons, List.length_nil, List.cons_append, List.nil_append, sB, kS_l, kS_r, sSeq_a, sNil_a, kSetI_p, sSetI_a, kSetJ_p, sSetJ_a, kSetA_p, sSetA_a, kInc_p, sInc_a, kPut2_p, kPut1_p, sPut_a, kPutC2_p, kPutC1_p, sPutC_a, kAst3_p, kAst2_p, kAst1_p, sAst_a, kAstC3_p, kAstC2_p, kAstC1_p, sAstC_a, kAstZ3_p, kAstZ2_p, kAstZ1_p, sAstZ_a, kAstO3_p, kAstO2_p, kAstO1_p, sAstO_a, kAstA3_p, kAstA2_p, kAstA1_p, sAstA_a, kX_p, sX_a, kIf_p, sIf_a, kRet_p, sRet_a, kRetZ_p, sRetZ_a, sRetV_a, kSw_p, sSw_a, kPutZ2_p, kPutZ1_p, sPutZ_a, eI_a, eJ_a, eN_a, kL_p, eLI_a, eLJ_a, eLA_a, kT2_p, kT_p, eT_a, kP2_p, kP_p, eP_a, kU_p, eU_a, kGet_p, eGet_a, kAld2_p, kAld1_p, eAld_a, kLen_p, eLen_a, kEIf_p, eIf_a, kCast_p, eCast_a, aN_a, kC2_p, kC_p, aC_a, kCS_p, eCallS_a, kCV2_p, kCV1_p, eCallV_a, kN2_p, kN1_p, eNew_a, kNA_p, eNewA_a, kSt3_p, kSt2_p, kSt1_p, eSt_a, kSA2_p, kSA1_p, eSetA_a, eZ_a, eMi_a, kCl_p, eCls_a, kAnd_p, cAnd_a, kOr_p, cOr_a, cNot_a, cZ_a, cNul_a, cNN_a, cAeq_a, cAne_a, kObj_p, sObj_a, kSup2_p, kSup1_p, sSup_a, kCp5_p, kCp4_p, kCp3_p, kCp2_p, kCp1_p, sCpI_a, qEq, qNe, qLt, qGe, qGt, qLe, rGt_s, rLt_s, stL, stL2, kill, List.getElem?_cons_zero, List.getElem?_cons_succ, gI_i, gJ_l, gR_r, gR_0, rf_s, rf_n, Option.bind_some, Option.bind_none, mR_r, cat_i, cat_r, cat_0, cat_d, cat_l, ↓reduceIte, reduceCtorEq, Nat.reduceSub, Nat.reduceAdd, Nat.reduceMul, Nat.reduceLT, Nat.reduceLeDiff, Nat.reduceEqDiff, and_true, true_and, and_false, false_and, or_false, false_or, or_true, true_or, not_true_eq_false, not_false_eq_true, decide_true, decide_false, eq_self, Bool.false_eq_true, decide_eq_true_eq, Bool.and_eq_true, Bool.or_eq_true, Bool.not_eq_true', decide_eq_false_iff_not, decide_not, Bool.not_true, Bool.not_false, Bool.and_true, Bool.true_and, Bool.and_false, Bool.false_and, Bool.or_true, Bool.true_or, Bool.or_false, Bool.false_or, Bool.and_self, Bool.or_self, Bool.true_eq_false, Bool.and_eq_false_imp, Bool.or_eq_false_iff, jI, jJ, jA, o_iadd, o_isub, o_imul, o_iand, o_ior, o_ishl, o_ishr, o_ladd, o_lsub, o_lmul, o_i2l, o_l2i, o_i2b, o_ineg, if_bI, bI_z, bI_01, ifs, if_and, if_or, if_10, bI_zn, bI_nz, ifl, ifcons, ifint, iflong, ite_self, if_inc, Bool.decide_eq_true, Bool.decide_and, Bool.decide_or, xA_hh, xT_hh, xN_hh, xS_hh, xI_0, xI_c, xI_m, xI_o, xJ_0, xJ_m, sI_0, sI_c, sI_m, sI_o, sJ_0, sJ_m, sA_hh, u2_s, u2_n, xT_sI, xT_sA, xN_sI, xN_sA, xA_sI, xI_sA, xI_sI, xA_sA, xN_nw, xT_nw, xT_nn, xI_nw, xI_nn, xA_nw, xA_nn, iN_nat, l_nat, l_lt_T, l_lt_F, l_le_T, l_le_F, l_eq_F, iN_lt, iN_le, iN_eq, iN_lt_l, iN_le_l, iN_eq_l, l_lt_iN, l_le_iN, l_eq_iN, iN_eq_n, n_eq_iN, iN_le_n, iN_lt_n, iN_add, iN_mul, iN_add_l, l_add_iN, l_mul_iN, iN_sub, iN_sub_l, sub1_le, le_F, lt_T, lt_F, le_T, eq_F, st_13 hs, y1, w, st_13 hs]
  · intro k hk L H ⟨D, a, b, l2, l3, l4, l5⟩
    subst l2 l3
    have b0 := kZ_le (T := T) (v := v) (d := d) bd bv bT k (by omega)
    have d14 : ∀ l, l < 3 → D 14 l = iN (v l) := fun l hl => (l4 _ _ (by omega)).trans (e14 l hl)
    have d17 : D 17 k = iN (d k) := (l4 _ _ (by omega)).trans (e17 k (by omega))
    have b1 : ∀ l, l < 3 → fe (kZ T v d k) v (d k) l < 2147483648 := by
      intro l hl
      have := b0 l hl
      have := tk_le (bd k (by omega)) (bv l hl)
      unfold fe
      omega
    have y1 := c_fq (N := N) (z := z) (M := M) (P := P) (Q := Q) hs (iN wt) (iN (fy T v d k)) (a := k) (by omega) l5 d17 d14 b1 hN
    have hq := fq_le (kZ T v d k) v (d k) 2
    have y2 := c_en (N := N) (z := z) (M := M) (P := P) (Q := Q) hs (f := fq (kZ T v d k) v (d k) 2) (a := k) (by omega) (by omega) (l5 _ (by omega)) d17 (d14 _ (by omega))
    refine ⟨_, _, ?_, up2 D 19 (fq (kZ T v d k) v (d k) 2) (iN (fz T v d k)), .int (iN (fq (kZ T v d k) v (d k) 2)), .int (iN 3), rfl, rfl, fun j l hj => (u2_n _ _ (Or.inl hj)).trans (l4 j l hj), fun l hl => ?_⟩
    · have y3 : fy T v d (k + 1) = fz T v d k := rfl
      rw [y3]
      unfold fz
      simp -implicitDefEqProofs (disch := first | omega | decide) only [fX7_foretold_2b, mB_s, lay_n, lay_i, lay_r, lay_0, lay_l, List.length_cons, List.length_nil, List.cons_append, List.nil_append, sB, kS_l, kS_r, sSeq_a, sNil_a, kSetI_p, sSetI_a, kSetJ_p, sSetJ_a, kSetA_p, sSetA_a, kInc_p, sInc_a, kPut2_p, kPut1_p, sPut_a, kPutC2_p, kPutC1_p, sPutC_a, kAst3_p, kAst2_p, kAst1_p, sAst_a, kAstC3_p, kAstC2_p, kAstC1_p, sAstC_a, kAstZ3_p, kAstZ2_p, kAstZ1_p, sAstZ_a, kAstO3_p, kAstO2_p, kAstO1_p, sAstO_a, kAstA3_p, kAstA2_p, kAstA1_p, sAstA_a, kX_p, sX_a, kIf_p, sIf_a, kRet_p, sRet_a, kRetZ_p, sRetZ_a, sRetV_a, kSw_p, sSw_a, kPutZ2_p, kPutZ1_p, sPutZ_a, eI_a, eJ_a, eN_a, kL_p, eLI_a, eLJ_a, eLA_a, kT2_p, kT_p, eT_a, kP2_p, kP_p, eP_a, kU_p, eU_a, kGet_p, eGet_a, kAld2_p, kAld1_p, eAld_a, kLen_p, eLen_a, kEIf_p, eIf_a, kCast_p, eCast_a, aN_a, kC2_p, kC_p, aC_a, kCS_p, eCallS_a, kCV2_p, kCV1_p, eCallV_a, kN2_p, kN1_p, eNew_a, kNA_p, eNewA_a, kSt3_p, kSt2_p, kSt1_p, eSt_a, kSA2_p, kSA1_p, eSetA_a, eZ_a, eMi_a, kCl_p, eCls_a, kAnd_p, cAnd_a, kOr_p, cOr_a, cNot_a, cZ_a, cNul_a, cNN_a, cAeq_a, cAne_a, kObj_p, sObj_a, kSup2_p, kSup1_p, sSup_a, kCp5_p, kCp4_p, kCp3_p, kCp2_p, kCp1_p, sCpI_a, qEq, qNe, qLt, qGe, qGt, qLe, rGt_s, rLt_s, stL, stL2, kill, List.getElem?_cons_zero, List.getElem?_cons_succ, gI_i, gJ_l, gR_r, gR_0, rf_s, rf_n, Option.bind_some, Option.bind_none, mR_r, cat_i, cat_r, cat_0, cat_d, cat_l, ↓reduceIte, reduceCtorEq, Nat.reduceSub, Nat.reduceAdd, Nat.reduceMul, Nat.reduceLT, Nat.reduceLeDiff, Nat.reduceEqDiff, and_true, true_and, and_false, false_and, or_false, false_or, or_true, true_or, not_true_eq_false, not_false_eq_true, decide_true, decide_false, eq_self, Bool.false_eq_true, decide_eq_true_eq, Bool.and_eq_true, Bool.or_eq_true, Bool.not_eq_true', decide_eq_false_iff_not, decide_not, Bool.not_true, Bool.not_false, Bool.and_true, Bool.true_and, Bool.and_false, Bool.false_and, Bool.or_true, Bool.true_or, Bool.or_false, Bool.false_or, Bool.and_self, Bool.or_self, Bool.true_eq_false, Bool.and_eq_false_imp, Bool.or_eq_false_iff, jI, jJ, jA, o_iadd, o_isub, o_imul, o_iand, o_ior, o_ishl, o_ishr, o_ladd, o_lsub, o_lmul, o_i2l, o_l2i, o_i2b, o_ineg, if_bI, bI_z, bI_01, ifs, if_and, if_or, if_10, bI_zn, bI_nz, ifl, ifcons, ifint, iflong, ite_self, if_inc, Bool.decide_eq_true, Bool.decide_and, Bool.decide_or, xA_hh, xT_hh, xN_hh, xS_hh, xI_0, xI_c, xI_m, xI_o, xJ_0, xJ_m, sI_0, sI_c, sI_m, sI_o, sJ_0, sJ_m, sA_hh, u2_s, u2_n, xT_sI, xT_sA, xN_sI, xN_sA, xA_sI, xI_sA, xI_sI, xA_sA, xN_nw, xT_nw, xT_nn, xI_nw, xI_nn, xA_nw, xA_nn, iN_nat, l_nat, l_lt_T, l_lt_F, l_le_T, l_le_F, l_eq_F, iN_lt, iN_le, iN_eq, iN_lt_l, iN_le_l, iN_eq_l, l_lt_iN, l_le_iN, l_eq_iN, iN_eq_n, n_eq_iN, iN_le_n, iN_lt_n, iN_add, iN_mul, iN_add_l, l_add_iN, l_mul_iN, iN_sub, iN_sub_l, sub1_le, le_F, lt_T, lt_F, le_T, eq_F, sa_13_7 hs, st_13 hs, st_19 hs, y1, y2, st_13 hs, sa_13_7 hs, st_19 hs]
    · rw [kZ_s]
      by_cases e : l = fq (kZ T v d k) v (d k) 2
      · rw [e, u2_s, fT_q]
        rfl
      · rw [u2_n _ _ (Or.inr e), fT_n _ _ _ e]
        exact l5 l hl
  · unfold bgC
    rw [if_pos (by omega)]
    exact e15 l hl
end FC
