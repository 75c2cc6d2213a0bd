/-! a book sits down; a book comes home -/
section LS
variable {x N : Nat} {z : Nat × Nat} {h : XH} {C M M0 : Nat → Nat → Int32} {P Q : Nat → Nat → Int64} {A : Nat → Nat → Nat} {n : Nat → Nat} {c : Nat}
theorem u2_c (f : Nat → Nat → Int32) {a b i j : Nat} (v w : Int32) (h : a ≠ b) : up2 (up2 f a i v) b j w = up2 (up2 f b j w) a i v := by
  funext p q
  by_cases h1 : p = a ∧ q = i
  · have h2 : p ≠ b := by omega
    rw [u2_n _ _ (Or.inl h2), h1.1, h1.2, u2_s, u2_s]
  · rw [u2_n (up2 f b j w) v (by omega)]
    by_cases h2 : p = b ∧ q = j
    · rw [h2.1, h2.2, u2_s, u2_s]
    · rw [u2_n _ _ (by omega), u2_n _ _ (by omega), u2_n _ _ (by omega)]
theorem c_endHad0 (hI : Inv x z A h C M P Q n c) {b : Nat} (hb : b < n 0) (t : Int32) (ht : t ≠ -9) : ∃ h2 M2, fX0_endHad N z [.ref (A 0 b), .int t] (hh x h C M0 P Q) = some ((), hh x h2 C M0 P Q) ∧ q_nm M b t (n 4) = M2 ∧ Inv x z A h2 C M2 P Q n c ∧ xN h2 = xN h ∧ xS h2 = xS h ∧ xT h2 = xT h ∧ xA h2 (A 0 b) 10 = none ∧ (∀ j i, j ≠ 18 → M2 j i = M j i) := by
  have hs := hI.sh
  have hd := hI.dy
  rcases (hI.gr b hb).d with ⟨k, k1, k2, k3, k4, k5⟩ | ⟨k1, k2⟩
  · refine ⟨sA (sI h (A 4 k) 3 t) (A 0 b) 10 none, up2 M 18 k t, ?_, nm_1 k1 k3 k4 k5, hI.eh hb k1 k2 k3 k5 ht, rfl, rfl, rfl, ?_, fun j i hj => u2_n _ _ (Or.inl hj)⟩
    · simp -implicitDefEqProofs (disch := first | omega | decide) only [fX0_endHad, mB_s, lay_n, lay_i, lay_r, lay_0, lay_l, List.length_cons, List.length_nil, List.cons_append, List.nil_append, sB, kS_l, kS_r, sSeq_a, sNil_a, kSetI_p, sSetI_a, kSetJ_p, sSetJ_a, kSetA_p, sSetA_a, kInc_p, sInc_a, kPut2_p, kPut1_p, sPut_a, kPutC2_p, kPutC1_p, sPutC_a, kAst3_p, kAst2_p, kAst1_p, sAst_a, kAstC3_p, kAstC2_p, kAstC1_p, sAstC_a, kAstZ3_p, kAstZ2_p, kAstZ1_p, sAstZ_a, kAstO3_p, kAstO2_p, kAstO1_p, sAstO_a, kAstA3_p, kAstA2_p, kAstA1_p, sAstA_a, kX_p, sX_a, kIf_p, sIf_a, kRet_p, sRet_a, kRetZ_p, sRetZ_a, sRetV_a, kSw_p, sSw_a, kPutZ2_p, kPutZ1_p, sPutZ_a, eI_a, eJ_a, eN_a, kL_p, eLI_a, eLJ_a, eLA_a, kT2_p, kT_p, eT_a, kP2_p, kP_p, eP_a, kU_p, eU_a, kGet_p, eGet_a, kAld2_p, kAld1_p, eAld_a, kLen_p, eLen_a, kEIf_p, eIf_a, kCast_p, eCast_a, aN_a, kC2_p, kC_p, aC_a, kCS_p, eCallS_a, kCV2_p, kCV1_p, eCallV_a, kN2_p, kN1_p, eNew_a, kNA_p, eNewA_a, kSt3_p, kSt2_p, kSt1_p, eSt_a, kSA2_p, kSA1_p, eSetA_a, eZ_a, eMi_a, kCl_p, eCls_a, kAnd_p, cAnd_a, kOr_p, cOr_a, cNot_a, cZ_a, cNul_a, cNN_a, cAeq_a, cAne_a, kObj_p, sObj_a, kSup2_p, kSup1_p, sSup_a, kCp5_p, kCp4_p, kCp3_p, kCp2_p, kCp1_p, sCpI_a, qEq, qNe, qLt, qGe, qGt, qLe, rGt_s, rLt_s, stL, stL2, kill, List.getElem?_cons_zero, List.getElem?_cons_succ, gI_i, gJ_l, gR_r, gR_0, rf_s, rf_n, Option.bind_some, Option.bind_none, mR_r, cat_i, cat_r, cat_0, cat_d, cat_l, ↓reduceIte, reduceCtorEq, Nat.reduceSub, Nat.reduceAdd, Nat.reduceMul, Nat.reduceLT, Nat.reduceLeDiff, Nat.reduceEqDiff, and_true, true_and, and_false, false_and, or_false, false_or, or_true, true_or, not_true_eq_false, not_false_eq_true, decide_true, decide_false, eq_self, Bool.false_eq_true, decide_eq_true_eq, Bool.and_eq_true, Bool.or_eq_true, Bool.not_eq_true', decide_eq_false_iff_not, decide_not, Bool.not_true, Bool.not_false, Bool.and_true, Bool.true_and, Bool.and_false, Bool.false_and, Bool.or_true, Bool.true_or, Bool.or_false, Bool.false_or, Bool.and_self, Bool.or_self, Bool.true_eq_false, Bool.and_eq_false_imp, Bool.or_eq_false_iff, jI, jJ, jA, o_iadd, o_isub, o_imul, o_iand, o_ior, o_ishl, o_ishr, o_ladd, o_lsub, o_lmul, o_i2l, o_l2i, o_i2b, o_ineg, if_bI, bI_z, bI_01, ifs, if_and, if_or, if_10, bI_zn, bI_nz, ifl, ifcons, ifint, iflong, ite_self, if_inc, Bool.decide_eq_true, Bool.decide_and, Bool.decide_or, xA_hh, xT_hh, xN_hh, xS_hh, xI_0, xI_c, xI_m, xI_o, xJ_0, xJ_m, sI_0, sI_c, sI_m, sI_o, sJ_0, sJ_m, sA_hh, u2_s, u2_n, xT_sI, xT_sA, xN_sI, xN_sA, xA_sI, xI_sA, xI_sI, xA_sA, xN_nw, xT_nw, xT_nn, xI_nw, xI_nn, xA_nw, xA_nn, iN_nat, l_nat, l_lt_T, l_lt_F, l_le_T, l_le_F, l_eq_F, iN_lt, iN_le, iN_eq, iN_lt_l, iN_le_l, iN_eq_l, l_lt_iN, l_le_iN, l_eq_iN, iN_eq_n, n_eq_iN, iN_le_n, iN_lt_n, iN_add, iN_mul, iN_add_l, l_add_iN, l_mul_iN, iN_sub, iN_sub_l, sub1_le, le_F, lt_T, lt_F, le_T, eq_F, c_sz0 hs hI.cn.c0, c_get0 hs hI.dy hI.cn.c0 hI.cn.b0, tg0 hI.dy, c_sz1 hs hI.cn.c1, c_get1 hs hI.dy hI.cn.c1 hI.cn.b1, tg1 hI.dy, c_sz2 hs hI.cn.c2, c_get2 hs hI.dy hI.cn.c2 hI.cn.b2, tg2 hI.dy, c_sz3 hs hI.cn.c3, c_get3 hs hI.dy hI.cn.c3 hI.cn.b3, tg3 hI.dy, c_sz4 hs hI.cn.c4, c_get4 hs hI.dy hI.cn.c4 hI.cn.b4, tg4 hI.dy, c_sz5 hs hI.cn.c5, c_get5 hs hI.dy hI.cn.c5 hI.cn.b5, tg5 hI.dy, c_sz6 hs hI.cn.c6, c_get6 hs hI.dy hI.cn.c6 hI.cn.b6, tg6 hI.dy, tg7 hI.dy hI.cn.e7, hI.dy.xI, hI.dy.sI, hI.cf.now, hI.cf.la, hI.cf.seen, hI.cf.stw, hI.cf.pc, hI.cf.fr, hI.cf.cm, hI.bkk0, hI.bkk1, hI.bkk2, hI.bkk3, hI.bkk4, hI.bkk5, hI.bkk6, hI.slk0, hI.slk2, hI.slk3, hI.slk4, hI.slk5, hI.ruk0, hI.ruk1, hI.ruk2, hI.lkk0, hI.lkk1, hI.lkk2, hI.hak0, hI.hak1, hI.hak2, hI.hak3, hI.eyk0, hI.eyk1, hI.lnk0, hI.lnk1, hI.lnk2, hI.lnk3, hI.lnk4, hI.lnk5, hI.lnk6, st_0 hs, st_3 hs, st_4 hs, st_5 hs, st_6 hs, st_7 hs, st_8 hs, st_9 hs, st_10 hs, sa_0_2 hs, sa_0_3 hs, sa_0_4 hs, sa_0_5 hs, sa_0_6 hs, sa_0_7 hs, sa_0_8 hs, sa_0_9 hs, sa_0_10 hs, sa_0_11 hs, sa_0_12 hs, sa_0_13 hs, sa_9_0 hs, k2]
    · simp only [xA_sA, up2, and_self, if_true]
  · refine ⟨h, M, ?_, nm_n k2, hI, rfl, rfl, rfl, k1, fun _ _ _ => rfl⟩
    simp -implicitDefEqProofs (disch := first | omega | decide) only [fX0_endHad, mB_s, lay_n, lay_i, lay_r, lay_0, lay_l, List.length_cons, List.length_nil, List.cons_append, List.nil_append, sB, kS_l, kS_r, sSeq_a, sNil_a, kSetI_p, sSetI_a, kSetJ_p, sSetJ_a, kSetA_p, sSetA_a, kInc_p, sInc_a, kPut2_p, kPut1_p, sPut_a, kPutC2_p, kPutC1_p, sPutC_a, kAst3_p, kAst2_p, kAst1_p, sAst_a, kAstC3_p, kAstC2_p, kAstC1_p, sAstC_a, kAstZ3_p, kAstZ2_p, kAstZ1_p, sAstZ_a, kAstO3_p, kAstO2_p, kAstO1_p, sAstO_a, kAstA3_p, kAstA2_p, kAstA1_p, sAstA_a, kX_p, sX_a, kIf_p, sIf_a, kRet_p, sRet_a, kRetZ_p, sRetZ_a, sRetV_a, kSw_p, sSw_a, kPutZ2_p, kPutZ1_p, sPutZ_a, eI_a, eJ_a, eN_a, kL_p, eLI_a, eLJ_a, eLA_a, kT2_p, kT_p, eT_a, kP2_p, kP_p, eP_a, kU_p, eU_a, kGet_p, eGet_a, kAld2_p, kAld1_p, eAld_a, kLen_p, eLen_a, kEIf_p, eIf_a, kCast_p, eCast_a, aN_a, kC2_p, kC_p, aC_a, kCS_p, eCallS_a, kCV2_p, kCV1_p, eCallV_a, kN2_p, kN1_p, eNew_a, kNA_p, eNewA_a, kSt3_p, kSt2_p, kSt1_p, eSt_a, kSA2_p, kSA1_p, eSetA_a, eZ_a, eMi_a, kCl_p, eCls_a, kAnd_p, cAnd_a, kOr_p, cOr_a, cNot_a, cZ_a, cNul_a, cNN_a, cAeq_a, cAne_a, kObj_p, sObj_a, kSup2_p, kSup1_p, sSup_a, kCp5_p, kCp4_p, kCp3_p, kCp2_p, kCp1_p, sCpI_a, qEq, qNe, qLt, qGe, qGt, qLe, rGt_s, rLt_s, stL, stL2, kill, List.getElem?_cons_zero, List.getElem?_cons_succ, gI_i, gJ_l, gR_r, gR_0, rf_s, rf_n, Option.bind_some, Option.bind_none, mR_r, cat_i, cat_r, cat_0, cat_d, cat_l, ↓reduceIte, reduceCtorEq, Nat.reduceSub, Nat.reduceAdd, Nat.reduceMul, Nat.reduceLT, Nat.reduceLeDiff, Nat.reduceEqDiff, and_true, true_and, and_false, false_and, or_false, false_or, or_true, true_or, not_true_eq_false, not_false_eq_true, decide_true, decide_false, eq_self, Bool.false_eq_true, decide_eq_true_eq, Bool.and_eq_true, Bool.or_eq_true, Bool.not_eq_true', decide_eq_false_iff_not, decide_not, Bool.not_true, Bool.not_false, Bool.and_true, Bool.true_and, Bool.and_false, Bool.false_and, Bool.or_true, Bool.true_or, Bool.or_false, Bool.false_or, Bool.and_self, Bool.or_self, Bool.true_eq_false, Bool.and_eq_false_imp, Bool.or_eq_false_iff, jI, jJ, jA, o_iadd, o_isub, o_imul, o_iand, o_ior, o_ishl, o_ishr, o_ladd, o_lsub, o_lmul, o_i2l, o_l2i, o_i2b, o_ineg, if_bI, bI_z, bI_01, ifs, if_and, if_or, if_10, bI_zn, bI_nz, ifl, ifcons, ifint, iflong, ite_self, if_inc, Bool.decide_eq_true, Bool.decide_and, Bool.decide_or, xA_hh, xT_hh, xN_hh, xS_hh, xI_0, xI_c, xI_m, xI_o, xJ_0, xJ_m, sI_0, sI_c, sI_m, sI_o, sJ_0, sJ_m, sA_hh, u2_s, u2_n, xT_sI, xT_sA, xN_sI, xN_sA, xA_sI, xI_sA, xI_sI, xA_sA, xN_nw, xT_nw, xT_nn, xI_nw, xI_nn, xA_nw, xA_nn, iN_nat, l_nat, l_lt_T, l_lt_F, l_le_T, l_le_F, l_eq_F, iN_lt, iN_le, iN_eq, iN_lt_l, iN_le_l, iN_eq_l, l_lt_iN, l_le_iN, l_eq_iN, iN_eq_n, n_eq_iN, iN_le_n, iN_lt_n, iN_add, iN_mul, iN_add_l, l_add_iN, l_mul_iN, iN_sub, iN_sub_l, sub1_le, le_F, lt_T, lt_F, le_T, eq_F, c_sz0 hs hI.cn.c0, c_get0 hs hI.dy hI.cn.c0 hI.cn.b0, tg0 hI.dy, c_sz1 hs hI.cn.c1, c_get1 hs hI.dy hI.cn.c1 hI.cn.b1, tg1 hI.dy, c_sz2 hs hI.cn.c2, c_get2 hs hI.dy hI.cn.c2 hI.cn.b2, tg2 hI.dy, c_sz3 hs hI.cn.c3, c_get3 hs hI.dy hI.cn.c3 hI.cn.b3, tg3 hI.dy, c_sz4 hs hI.cn.c4, c_get4 hs hI.dy hI.cn.c4 hI.cn.b4, tg4 hI.dy, c_sz5 hs hI.cn.c5, c_get5 hs hI.dy hI.cn.c5 hI.cn.b5, tg5 hI.dy, c_sz6 hs hI.cn.c6, c_get6 hs hI.dy hI.cn.c6 hI.cn.b6, tg6 hI.dy, tg7 hI.dy hI.cn.e7, hI.dy.xI, hI.dy.sI, hI.cf.now, hI.cf.la, hI.cf.seen, hI.cf.stw, hI.cf.pc, hI.cf.fr, hI.cf.cm, hI.bkk0, hI.bkk1, hI.bkk2, hI.bkk3, hI.bkk4, hI.bkk5, hI.bkk6, hI.slk0, hI.slk2, hI.slk3, hI.slk4, hI.slk5, hI.ruk0, hI.ruk1, hI.ruk2, hI.lkk0, hI.lkk1, hI.lkk2, hI.hak0, hI.hak1, hI.hak2, hI.hak3, hI.eyk0, hI.eyk1, hI.lnk0, hI.lnk1, hI.lnk2, hI.lnk3, hI.lnk4, hI.lnk5, hI.lnk6, st_0 hs, st_3 hs, st_4 hs, st_5 hs, st_6 hs, st_7 hs, st_8 hs, st_9 hs, st_10 hs, sa_0_2 hs, sa_0_3 hs, sa_0_4 hs, sa_0_5 hs, sa_0_6 hs, sa_0_7 hs, sa_0_8 hs, sa_0_9 hs, sa_0_10 hs, sa_0_11 hs, sa_0_12 hs, sa_0_13 hs, sa_9_0 hs, k1]
/-- a book comes home -/
theorem Inv.hom (hI : Inv x z A h C M P Q n c) {b : Nat} (hb : b < n 0) (eA : xA h (A 0 b) 10 = none) : Inv x z A (sI (sI (sI h (A 0 b) 4 0) (A 0 b) 6 0) (A 0 b) 5 0) C (up2 (up2 M 10 b 0) 11 b 0) P Q n c := by
  have ob := hI.ok.bk b hb
  have e10 : up2 (up2 M 10 b 0) 11 b 0 10 b = 0 := by rw [u2_n _ _ (by omega), u2_s]
  refine hI.bk1 (K := 0) (D := 0) (B := 0) hb (fun j2 i hj2 => ?_) e10 (u2_s _ _ _ _) ?_ (fun w => ?_) ?_ (fun _ => eA) ?_
  · rw [u2_n _ _ (by omega), u2_n _ _ (by omega)]
  · unfold q_own
    rw [e10, if_pos rfl]
  · rw [had_f (by rw [e10]; decide) (by rw [e10]; decide)] at w
    cases w
  · rw [e10]; decide
  · refine ⟨ob.m, ob.s, ob.r, ⟨0, by omega, e10⟩, fun _ => u2_s _ _ _ _, fun w => ?_⟩
    rw [e10] at w
    exact absurd w (by decide)
/-- a book sits down -/
theorem Inv.sit (hI : Inv x z A h C M P Q n c) {b : Nat} (hb : b < n 0) (h5 : M 10 b = 5) {r : Int32} {h2 : XH} (eT : xT h2 = xT h) (eN : xN h2 = xN h) (eI : ∀ a k, xI h2 a k = if a = A 0 b ∧ k = 4 then 1 else if a = A 0 b ∧ k = 6 then r else if a = A 0 b ∧ k = 5 then 1 else if a = A 0 b ∧ k = 7 then r else xI h a k) (eA : ∀ a k, xA h2 a k = if a = A 0 b ∧ k = 9 then none else xA h a k) : Inv x z A h2 C (up2 (up2 M 10 b 1) 12 b r) P Q n c := by
  have hd := hI.dy
  have hnh : q_had M b = false := had_f (by rw [h5]; decide) (by rw [h5]; decide)
  have hA := (hI.gr b hb).e hnh
  have eX : ∀ q i j, q ≠ 0 → xI h2 (A q i) j = xI h (A q i) j := by
    intro q i j hq
    simp only [eI, hd.aa, hq, false_and, if_false]
  have eB : ∀ i j, i ≠ b → xI h2 (A 0 i) j = xI h (A 0 i) j := by
    intro i j hi
    simp only [eI, hd.aa, hi, and_false, false_and, if_false]
  have eAo : ∀ i j, (i ≠ b ∨ j ≠ 9) → xA h2 (A 0 i) j = xA h (A 0 i) j := by
    intro i j hi
    simp only [eA, hd.aa, true_and]
    rw [if_neg (by omega)]
  have eA1 : ∀ i j, xA h2 (A 1 i) j = xA h (A 1 i) j := by
    intro i j
    simp only [eA, hd.aa, Nat.reduceEqDiff, false_and, if_false]
  have eM : ∀ j, j ≠ 10 → j ≠ 12 → ∀ i, up2 (up2 M 10 b 1) 12 b r j i = M j i := by
    intro j h1 h3 i
    rw [u2_n _ _ (Or.inl h3), u2_n _ _ (Or.inl h1)]
  have eJ : ∀ j i, i ≠ b → up2 (up2 M 10 b 1) 12 b r j i = M j i := by
    intro j i hi
    rw [u2_n _ _ (Or.inr hi), u2_n _ _ (Or.inr hi)]
  have m10 : up2 (up2 M 10 b 1) 12 b r 10 b = 1 := by rw [u2_n _ _ (by omega), u2_s]
  have m12 : up2 (up2 M 10 b 1) 12 b r 12 b = r := u2_s _ _ _ _
  have m11 : up2 (up2 M 10 b 1) 12 b r 11 b = 1 := by
    rw [eM 11 (by omega) (by omega)]
    exact (hI.ok.bk b hb).o (Or.inr (Or.inr h5))
  refine hI.bks eT eN (fun q i j h0 _ _ => eX q i j h0) (fun a j ha => ?_) (fun j i hj => ?_) ?_ ?_ ?_ ?_ ?_ ?_ ?_
  · rw [eA, if_neg (fun w => ha b w.1)]
  · simp only [List.mem_cons, List.not_mem_nil, or_false, not_or] at hj
    exact eM j (by omega) (by omega) i
  · intro i hi
    have o := hI.bk i hi
    by_cases e : i = b
    · subst e
      refine ⟨?_, ?_, ?_, ?_, ?_, ?_, ?_, fun w => ?_, fun w => ?_⟩
      · rw [eI, if_neg (by omega), if_neg (by omega), if_neg (by omega), if_neg (by omega)]; exact o.k0
      · rw [eM 7 (by omega) (by omega), eI, if_neg (by omega), if_neg (by omega), if_neg (by omega), if_neg (by omega)]; exact o.k1
      · rw [eM 8 (by omega) (by omega), eI, if_neg (by omega), if_neg (by omega), if_neg (by omega), if_neg (by omega)]; exact o.k2
      · rw [eM 9 (by omega) (by omega), eI, if_neg (by omega), if_neg (by omega), if_neg (by omega), if_neg (by omega)]; exact o.k3
      · rw [m10, eI, if_pos ⟨rfl, rfl⟩]
      · rw [m11, eI, if_neg (by omega), if_neg (by omega), if_pos ⟨rfl, rfl⟩]
      · unfold q_own
        rw [m10, if_neg (by decide), if_pos (by decide), m12, eI, if_neg (by omega), if_pos ⟨rfl, rfl⟩]
      · rw [m12, eI, if_neg (by omega), if_neg (by omega), if_neg (by omega), if_pos ⟨rfl, rfl⟩]
      · rw [m10] at w
        exact absurd w (by decide)
    · simp only [BkR, q_own, q_had, eB i _ e, eJ 7 i e, eJ 8 i e, eJ 9 i e, eJ 10 i e, eJ 11 i e, eJ 12 i e, eJ 13 i e] at o ⊢
      exact o
  · intro i hi
    have o := hI.gr i hi
    by_cases e : i = b
    · subst e
      refine ⟨fun w => ?_, ?_, fun w => ?_⟩
      · rw [m10] at w
        exact absurd w (by decide)
      · rw [eAo i 10 (by omega)]
        have := o.d
        simp only [eM 15 (by omega) (by omega), eM 18 (by omega) (by omega)]
        exact this
      · rw [eAo i 10 (by omega)]; exact hA
    · simp only [GoR, q_had, eAo i 9 (by omega), eAo i 10 (by omega), eJ 10 i e, eJ 14 i e, eM 15 (by omega) (by omega), eM 18 (by omega) (by omega)] at o ⊢
      exact o
  · intro i hi
    have o := hI.sl i hi
    simp only [SlR, eX 1 _ _ (by decide), eA1, eM 23 (by omega) (by omega), eM 24 (by omega) (by omega), eM 25 (by omega) (by omega), eM 26 (by omega) (by omega), eM 27 (by omega) (by omega), eM 28 (by omega) (by omega)] at o ⊢
    exact o
  · intro i hi
    have o := hI.ha i hi
    simp only [HaR, eX 4 _ _ (by decide), eM 15 (by omega) (by omega), eM 16 (by omega) (by omega), eM 17 (by omega) (by omega), eM 18 (by omega) (by omega)] at o ⊢
    exact o
  · intro i hi
    have o := hI.ok.bk i hi
    by_cases e : i = b
    · subst e
      refine ⟨by rw [eM 7 (by omega) (by omega)]; exact o.m, by rw [eM 8 (by omega) (by omega)]; exact o.s, by rw [eM 9 (by omega) (by omega)]; exact o.r, ⟨1, by omega, m10⟩, fun w => ?_, fun _ => m11⟩
      rw [m10] at w
      exact absurd w (by decide)
    · simp only [BkM, eJ 7 i e, eJ 8 i e, eJ 9 i e, eJ 10 i e, eJ 11 i e] at o ⊢
      exact o
  · intro i h1 h2
    rw [eJ 10 i (by omega), eJ 11 i (by omega)]
    exact hI.ok.new i h1 h2
  · intro i hi
    have o := hI.ok.sl i hi
    simp only [SlM, eM 23 (by omega) (by omega), eM 24 (by omega) (by omega), eM 26 (by omega) (by omega)] at o ⊢
    exact o
end LS
