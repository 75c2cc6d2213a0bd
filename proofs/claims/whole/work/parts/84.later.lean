/-! time goes on for one book -/
section LA
variable {x N : Nat} {z : Nat × Nat} {h : XH} {C M M0 : Nat → Nat → Int32} {P Q : Nat → Nat → Int64} {A : Nat → Nat → Nat} {n : Nat → Nat} {c : Nat}
def siM (M : Nat → Nat → Int32) (b s : Nat) : Nat → Nat → Int32 := up2 (up2 (up2 (up2 M 10 b 1) 12 b (M 24 s)) 23 s 2) 27 s (M 13 b)
def hoM (M : Nat → Nat → Int32) (b : Nat) : Nat → Nat → Int32 := up2 (up2 M 10 b 0) 11 b 0
def goM (M : Nat → Nat → Int32) (b : Nat) : Nat → Nat → Int32 :=
  if M 10 b = 5 ∧ M 13 b ≤ M 0 12 then (if (M 0 22).toNatClampNeg < 60 then hnM (siM M b (M 14 b).toNatClampNeg) (M 0 22).toNatClampNeg b (M 24 (M 14 b).toNatClampNeg) (M 13 b) else siM M b (M 14 b).toNatClampNeg)
  else if M 10 b = 3 ∧ M 13 b ≤ M 0 12 then hoM M b
  else if M 10 b = 2 ∧ (M 13 b + 1) * 1440 ≤ M 0 12 then hoM (q_nm M b ((M 13 b + 1) * 1440) (M 0 22).toNatClampNeg) b
  else M
theorem si_c (M : Nat → Nat → Int32) (b s : Nat) (r t : Int32) : up2 (up2 (up2 (up2 M 23 s 2) 27 s t) 10 b 1) 12 b r = up2 (up2 (up2 (up2 M 10 b 1) 12 b r) 23 s 2) 27 s t := by
  rw [u2_c (up2 M 23 s 2) t 1 (by omega : 27 ≠ 10), u2_c M 2 1 (by omega : 23 ≠ 10), u2_c (up2 (up2 M 10 b 1) 23 s 2) t r (by omega : 27 ≠ 12), u2_c (up2 M 10 b 1) 2 r (by omega : 23 ≠ 12)]
theorem odd9 (v : Int32) : v * 1440 ≠ -9 := by
  intro e
  have e2 : (v * 1440).toInt = (-9 : Int32).toInt := by rw [e]
  rw [Int32.toInt_mul, show (1440 : Int32).toInt = 1440 from rfl, show (-9 : Int32).toInt = -9 from rfl] at e2
  have := Int.emod_emod_of_dvd (v.toInt * 1440) (show (2 : Int) ∣ 2 ^ 32 from ⟨2 ^ 31, by decide⟩)
  have e3 := Int.bmod_emod (x := v.toInt * 1440) (m := 2 ^ 32)
  rw [e2] at e3
  omega
theorem c_sit (hI : Inv x z A h C M P Q n c) {b : Nat} (hb : b < n 0) (e5 : M 10 b = 5) (hN : 10000 < N) : ∃ A2 h2 C2 n2, fX11_letSit N z [.ref x, .ref (A 0 b)] (hh x h C M0 P Q) = some ((), hh x h2 C2 M0 P Q) ∧ Inv x z A2 h2 C2 (if (M 0 22).toNatClampNeg < 60 then hnM (siM M b (M 14 b).toNatClampNeg) (M 0 22).toNatClampNeg b (M 24 (M 14 b).toNatClampNeg) (M 13 b) else siM M b (M 14 b).toNatClampNeg) P Q n2 c ∧ n2 0 = n 0 ∧ xN h2 ≤ xN h + 2 ∧ xS h2 ≤ xS h + 204 := by
  have hs := hI.sh
  have hd := hI.dy
  have bb0 := hI.cn.b0; have bb1 := hI.cn.b1; have bb2 := hI.cn.b2; have bb3 := hI.cn.b3; have bb4 := hI.cn.b4; have bb5 := hI.cn.b5; have bb6 := hI.cn.b6
  obtain ⟨s, hs1, es, ea⟩ := (hI.gr b hb).g e5
  obtain ⟨r, hr, er⟩ := (hI.ok.sl s hs1).r
  have x0 := (hI.sl s hs1).k0
  have x8 := (hI.bk b hb).k8 e5
  have xb := (hI.bk b hb).k0
  have tb := tg0 hd hb
  have ts := tg1 hd hs1
  have hgb := hd.g 0 b
  have hgs := hd.g 1 s
  have hne : A 1 s ≠ A 0 b := by rw [Ne, hd.aa]; omega
  rw [es, iN_nat (by omega), hI.cn.m4, iN_nat (by omega)]
  have hI1 := hI.sle (s := s) (k := 2) hs1 (by omega) (M 13 b)
  generalize hh1 : sI (sI h (A 1 s) 4 (iN 2)) (A 1 s) 5 (M 13 b) = h1 at hI1
  have hI2 := hI1.sit (b := b) (r := iN r) (h2 := sI (sI (sI (sI (sA h1 (A 0 b) 9 none) (A 0 b) 4 1) (A 0 b) 6 (iN r)) (A 0 b) 5 1) (A 0 b) 7 (iN r)) hb e5 rfl rfl (fun a k => by
    simp only [xI_sI, xI_sA, up2]
    by_cases q : a = A 0 b
    · by_cases q4 : k = 4
      · subst q4; simp only [q, true_and, Nat.reduceEqDiff, if_false, if_true]
      · by_cases q6 : k = 6
        · subst q6; simp only [q, true_and, Nat.reduceEqDiff, if_false, if_true]
        · by_cases q5 : k = 5
          · subst q5; simp only [q, true_and, Nat.reduceEqDiff, if_false, if_true]
          · simp only [q, q4, q5, q6, and_false, if_false]
    · simp only [q, false_and, if_false]) (fun a k => by simp only [xA_sA, xA_sI, up2])
  have eM : up2 (up2 (up2 (up2 M 23 s (iN 2)) 27 s (M 13 b)) 10 b 1) 12 b (iN r) = siM M b s := by
    unfold siM
    rw [er]
    exact si_c M b s (iN r) (M 13 b)
  rw [eM] at hI2
  have hN1 : xN h1 = xN h := by rw [← hh1]; rfl
  have hS1 : xS h1 = xS h := by rw [← hh1]; rfl
  have hX := hd.nx
  have t1b : xT h1 (A 0 b) = (2, 11) := by rw [← hh1]; exact tb
  have t1s : xT h1 (A 1 s) = (12, 6) := by rw [← hh1]; exact ts
  have y0 : xI h1 (A 1 s) 0 = iN r := by
    rw [← hh1]
    simp only [xI_sI]
    rw [u2_n _ _ (by omega), u2_n _ _ (by omega), x0, er]
  have y0b : xI h1 (A 0 b) 0 = iN b := by
    rw [← hh1]
    simp only [xI_sI]
    rw [u2_n _ _ (by omega), u2_n _ _ (by omega), xb]
  have yend : fX10_end N z [.ref (A 1 s), .int 2, .int (M 13 b)] (hh x h C M0 P Q) = some ((), hh x h1 C M0 P Q) := by
    have z2 : (2 : Int32) = iN 2 := rfl
    rw [← hh1, z2]
    simp -implicitDefEqProofs (disch := first | omega | decide) only [fX10_end, mB_s, lay_n, lay_i, lay_r, lay_0, lay_l, List.length_cons, List.length_nil, List.cons_append, List.nil_append, sB, kS_l, kS_r, sSeq_a, sNil_a, kSetI_p, sSetI_a, kSetJ_p, sSetJ_a, kSetA_p, sSetA_a, kInc_p, sInc_a, kPut2_p, kPut1_p, sPut_a, kPutC2_p, kPutC1_p, sPutC_a, kAst3_p, kAst2_p, kAst1_p, sAst_a, kAstC3_p, kAstC2_p, kAstC1_p, sAstC_a, kAstZ3_p, kAstZ2_p, kAstZ1_p, sAstZ_a, kAstO3_p, kAstO2_p, kAstO1_p, sAstO_a, kAstA3_p, kAstA2_p, kAstA1_p, sAstA_a, kX_p, sX_a, kIf_p, sIf_a, kRet_p, sRet_a, kRetZ_p, sRetZ_a, sRetV_a, kSw_p, sSw_a, kPutZ2_p, kPutZ1_p, sPutZ_a, eI_a, eJ_a, eN_a, kL_p, eLI_a, eLJ_a, eLA_a, kT2_p, kT_p, eT_a, kP2_p, kP_p, eP_a, kU_p, eU_a, kGet_p, eGet_a, kAld2_p, kAld1_p, eAld_a, kLen_p, eLen_a, kEIf_p, eIf_a, kCast_p, eCast_a, aN_a, kC2_p, kC_p, aC_a, kCS_p, eCallS_a, kCV2_p, kCV1_p, eCallV_a, kN2_p, kN1_p, eNew_a, kNA_p, eNewA_a, kSt3_p, kSt2_p, kSt1_p, eSt_a, kSA2_p, kSA1_p, eSetA_a, eZ_a, eMi_a, kCl_p, eCls_a, kAnd_p, cAnd_a, kOr_p, cOr_a, cNot_a, cZ_a, cNul_a, cNN_a, cAeq_a, cAne_a, kObj_p, sObj_a, kSup2_p, kSup1_p, sSup_a, kCp5_p, kCp4_p, kCp3_p, kCp2_p, kCp1_p, sCpI_a, qEq, qNe, qLt, qGe, qGt, qLe, rGt_s, rLt_s, stL, stL2, kill, List.getElem?_cons_zero, List.getElem?_cons_succ, gI_i, gJ_l, gR_r, gR_0, rf_s, rf_n, Option.bind_some, Option.bind_none, mR_r, cat_i, cat_r, cat_0, cat_d, cat_l, ↓reduceIte, reduceCtorEq, Nat.reduceSub, Nat.reduceAdd, Nat.reduceMul, Nat.reduceLT, Nat.reduceLeDiff, Nat.reduceEqDiff, and_true, true_and, and_false, false_and, or_false, false_or, or_true, true_or, not_true_eq_false, not_false_eq_true, decide_true, decide_false, eq_self, Bool.false_eq_true, decide_eq_true_eq, Bool.and_eq_true, Bool.or_eq_true, Bool.not_eq_true', decide_eq_false_iff_not, decide_not, Bool.not_true, Bool.not_false, Bool.and_true, Bool.true_and, Bool.and_false, Bool.false_and, Bool.or_true, Bool.true_or, Bool.or_false, Bool.false_or, Bool.and_self, Bool.or_self, Bool.true_eq_false, Bool.and_eq_false_imp, Bool.or_eq_false_iff, jI, jJ, jA, o_iadd, o_isub, o_imul, o_iand, o_ior, o_ishl, o_ishr, o_ladd, o_lsub, o_lmul, o_i2l, o_l2i, o_i2b, o_ineg, if_bI, bI_z, bI_01, ifs, if_and, if_or, if_10, bI_zn, bI_nz, ifl, ifcons, ifint, iflong, ite_self, if_inc, Bool.decide_eq_true, Bool.decide_and, Bool.decide_or, xA_hh, xT_hh, xN_hh, xS_hh, xI_0, xI_c, xI_m, xI_o, xJ_0, xJ_m, sI_0, sI_c, sI_m, sI_o, sJ_0, sJ_m, sA_hh, u2_s, u2_n, xT_sI, xT_sA, xN_sI, xN_sA, xA_sI, xI_sA, xI_sI, xA_sA, xN_nw, xT_nw, xT_nn, xI_nw, xI_nn, xA_nw, xA_nn, iN_nat, l_nat, l_lt_T, l_lt_F, l_le_T, l_le_F, l_eq_F, iN_lt, iN_le, iN_eq, iN_lt_l, iN_le_l, iN_eq_l, l_lt_iN, l_le_iN, l_eq_iN, iN_eq_n, n_eq_iN, iN_le_n, iN_lt_n, iN_add, iN_mul, iN_add_l, l_add_iN, l_mul_iN, iN_sub, iN_sub_l, sub1_le, le_F, lt_T, lt_F, le_T, eq_F, ts, sI_o hgs]
  have cto := c_to (N := N) (z := z) (x := x) (h := sA h1 (A 0 b) 9 none) (C := C) (M := M0) (P := P) (Q := Q) hgb t1b 1 (iN r)
  have eb1 : ∀ o, q_bel 1 o = 1 := fun _ => rfl
  rw [eb1] at cto
  have t7 := st_7 hs
  have t71 : xT h1 (x + 7) = (1, 3) := by rw [← hh1]; exact t7
  have s06 : xA h1 x 6 = some (x + 7) := by rw [← hh1]; exact sa_0_6 hs
  have t01 : xT h1 x = (13, 21) := by rw [← hh1]; exact st_0 hs
  by_cases w : n 4 < 60
  · have nO : ∀ k, k < n 4 → siM M b s 15 k = iN b → siM M b s 18 k ≠ -9 := by
      intro k hk h1 h2
      have hnh : q_had M b = false := had_f (by rw [e5]; decide) (by rw [e5]; decide)
      have hA := (hI.gr b hb).e hnh
      have q15 : siM M b s 15 k = M 15 k := by
        unfold siM
        rw [u2_n _ _ (by omega), u2_n _ _ (by omega), u2_n _ _ (by omega), u2_n _ _ (by omega)]
      have q18 : siM M b s 18 k = M 18 k := by
        unfold siM
        rw [u2_n _ _ (by omega), u2_n _ _ (by omega), u2_n _ _ (by omega), u2_n _ _ (by omega)]
      rw [q15] at h1
      rw [q18] at h2
      rcases (hI.gr b hb).d with ⟨k, _, d2, _⟩ | ⟨_, d2⟩
      · rw [hA] at d2
        cases d2
      · exact d2 k hk h1 h2
    have q10 : siM M b s 10 b = 1 := by
      unfold siM
      rw [u2_n _ _ (by omega), u2_n _ _ (by omega), u2_n _ _ (by omega), u2_s]
    obtain ⟨h3, A3, f1, f2, f3, f4⟩ := hI2.hd1 (M0 := M0) (N := N) (b := b) (r := r) hb hr (M 13 b) w (by unfold q_had; rw [q10]; rfl) nO
    rw [if_pos w, er]
    have e3 : xN (sI (sI (sI (sI (sA h1 (A 0 b) 9 none) (A 0 b) 4 1) (A 0 b) 6 (iN r)) (A 0 b) 5 1) (A 0 b) 7 (iN r)) = xN h1 := rfl
    have e4 : xS (sI (sI (sI (sI (sA h1 (A 0 b) 9 none) (A 0 b) 4 1) (A 0 b) 6 (iN r)) (A 0 b) 5 1) (A 0 b) 7 (iN r)) = xS h1 := rfl
    refine ⟨A3, h3, _, _, ?_, f2, up1_n _ _ (by omega), by omega, by omega⟩
    unfold hdH at f1
    rw [e3] at f1
    have c4 := c_sz4 (N := N) (z := z) (n := n) (M := M0) (P := P) (Q := Q) hI2.sh hI.cn.c4
    have gN : x + 115 ≤ xN h1 := by omega
    have bN : A 0 b < xN h1 := by have := hd.b (c := 0) (by omega) hb; omega
    have bS : A 1 s < xN h1 := by have := hd.b (c := 1) (by omega) hs1; omega
    have tN : xT (xNew (sI (sI (sI (sI (sA h1 (A 0 b) 9 none) (A 0 b) 4 1) (A 0 b) 6 (iN r)) (A 0 b) 5 1) (A 0 b) 7 (iN r)) 5 4) (xN h1) = (5, 4) := xT_nw _ _ _
    simp -implicitDefEqProofs (disch := first | omega | decide) only [fX11_letSit, fX3_init, mB_s, lay_n, lay_i, lay_r, lay_0, lay_l, List.length_cons, List.length_nil, List.cons_append, List.nil_append, sB, kS_l, kS_r, sSeq_a, sNil_a, kSetI_p, sSetI_a, kSetJ_p, sSetJ_a, kSetA_p, sSetA_a, kInc_p, sInc_a, kPut2_p, kPut1_p, sPut_a, kPutC2_p, kPutC1_p, sPutC_a, kAst3_p, kAst2_p, kAst1_p, sAst_a, kAstC3_p, kAstC2_p, kAstC1_p, sAstC_a, kAstZ3_p, kAstZ2_p, kAstZ1_p, sAstZ_a, kAstO3_p, kAstO2_p, kAstO1_p, sAstO_a, kAstA3_p, kAstA2_p, kAstA1_p, sAstA_a, kX_p, sX_a, kIf_p, sIf_a, kRet_p, sRet_a, kRetZ_p, sRetZ_a, sRetV_a, kSw_p, sSw_a, kPutZ2_p, kPutZ1_p, sPutZ_a, eI_a, eJ_a, eN_a, kL_p, eLI_a, eLJ_a, eLA_a, kT2_p, kT_p, eT_a, kP2_p, kP_p, eP_a, kU_p, eU_a, kGet_p, eGet_a, kAld2_p, kAld1_p, eAld_a, kLen_p, eLen_a, kEIf_p, eIf_a, kCast_p, eCast_a, aN_a, kC2_p, kC_p, aC_a, kCS_p, eCallS_a, kCV2_p, kCV1_p, eCallV_a, kN2_p, kN1_p, eNew_a, kNA_p, eNewA_a, kSt3_p, kSt2_p, kSt1_p, eSt_a, kSA2_p, kSA1_p, eSetA_a, eZ_a, eMi_a, kCl_p, eCls_a, kAnd_p, cAnd_a, kOr_p, cOr_a, cNot_a, cZ_a, cNul_a, cNN_a, cAeq_a, cAne_a, kObj_p, sObj_a, kSup2_p, kSup1_p, sSup_a, kCp5_p, kCp4_p, kCp3_p, kCp2_p, kCp1_p, sCpI_a, qEq, qNe, qLt, qGe, qGt, qLe, rGt_s, rLt_s, stL, stL2, kill, List.getElem?_cons_zero, List.getElem?_cons_succ, gI_i, gJ_l, gR_r, gR_0, rf_s, rf_n, Option.bind_some, Option.bind_none, mR_r, cat_i, cat_r, cat_0, cat_d, cat_l, ↓reduceIte, reduceCtorEq, Nat.reduceSub, Nat.reduceAdd, Nat.reduceMul, Nat.reduceLT, Nat.reduceLeDiff, Nat.reduceEqDiff, and_true, true_and, and_false, false_and, or_false, false_or, or_true, true_or, not_true_eq_false, not_false_eq_true, decide_true, decide_false, eq_self, Bool.false_eq_true, decide_eq_true_eq, Bool.and_eq_true, Bool.or_eq_true, Bool.not_eq_true', decide_eq_false_iff_not, decide_not, Bool.not_true, Bool.not_false, Bool.and_true, Bool.true_and, Bool.and_false, Bool.false_and, Bool.or_true, Bool.true_or, Bool.or_false, Bool.false_or, Bool.and_self, Bool.or_self, Bool.true_eq_false, Bool.and_eq_false_imp, Bool.or_eq_false_iff, jI, jJ, jA, o_iadd, o_isub, o_imul, o_iand, o_ior, o_ishl, o_ishr, o_ladd, o_lsub, o_lmul, o_i2l, o_l2i, o_i2b, o_ineg, if_bI, bI_z, bI_01, ifs, if_and, if_or, if_10, bI_zn, bI_nz, ifl, ifcons, ifint, iflong, ite_self, if_inc, Bool.decide_eq_true, Bool.decide_and, Bool.decide_or, xA_hh, xT_hh, xN_hh, xS_hh, xI_0, xI_c, xI_m, xI_o, xJ_0, xJ_m, sI_0, sI_c, sI_m, sI_o, sJ_0, sJ_m, sA_hh, u2_s, u2_n, xT_sI, xT_sA, xN_sI, xN_sA, xA_sI, xI_sA, xI_sI, xA_sA, xN_nw, xT_nw, xT_nn, xI_nw, xI_nn, xA_nw, xA_nn, iN_nat, l_nat, l_lt_T, l_lt_F, l_le_T, l_le_F, l_eq_F, iN_lt, iN_le, iN_eq, iN_lt_l, iN_le_l, iN_eq_l, l_lt_iN, l_le_iN, l_eq_iN, iN_eq_n, n_eq_iN, iN_le_n, iN_lt_n, iN_add, iN_mul, iN_add_l, l_add_iN, l_mul_iN, iN_sub, iN_sub_l, sub1_le, le_F, lt_T, lt_F, le_T, eq_F, sa_0_6 hs, st_0 hs, st_7 hs, tN, tb, ts, ea, x8, yend, t1b, t1s, y0, y0b, cto, c4, t01, s06, t71, sI_o hgb, sI_o gN, xI_o hgb, xI_o hgs, xNew_hh, f1]
  · rw [if_neg w]
    refine ⟨A, _, C, n, ?_, hI2, rfl, by have : xN (sI (sI (sI (sI (sA h1 (A 0 b) 9 none) (A 0 b) 4 1) (A 0 b) 6 (iN r)) (A 0 b) 5 1) (A 0 b) 7 (iN r)) = xN h1 := rfl; omega, by have : xS (sI (sI (sI (sI (sA h1 (A 0 b) 9 none) (A 0 b) 4 1) (A 0 b) 6 (iN r)) (A 0 b) 5 1) (A 0 b) 7 (iN r)) = xS h1 := rfl; omega⟩
    have c4 := c_sz4 (N := N) (z := z) (n := n) (M := M0) (P := P) (Q := Q) hI2.sh hI.cn.c4
    simp -implicitDefEqProofs (disch := first | omega | decide) only [fX11_letSit, mB_s, lay_n, lay_i, lay_r, lay_0, lay_l, List.length_cons, List.length_nil, List.cons_append, List.nil_append, sB, kS_l, kS_r, sSeq_a, sNil_a, kSetI_p, sSetI_a, kSetJ_p, sSetJ_a, kSetA_p, sSetA_a, kInc_p, sInc_a, kPut2_p, kPut1_p, sPut_a, kPutC2_p, kPutC1_p, sPutC_a, kAst3_p, kAst2_p, kAst1_p, sAst_a, kAstC3_p, kAstC2_p, kAstC1_p, sAstC_a, kAstZ3_p, kAstZ2_p, kAstZ1_p, sAstZ_a, kAstO3_p, kAstO2_p, kAstO1_p, sAstO_a, kAstA3_p, kAstA2_p, kAstA1_p, sAstA_a, kX_p, sX_a, kIf_p, sIf_a, kRet_p, sRet_a, kRetZ_p, sRetZ_a, sRetV_a, kSw_p, sSw_a, kPutZ2_p, kPutZ1_p, sPutZ_a, eI_a, eJ_a, eN_a, kL_p, eLI_a, eLJ_a, eLA_a, kT2_p, kT_p, eT_a, kP2_p, kP_p, eP_a, kU_p, eU_a, kGet_p, eGet_a, kAld2_p, kAld1_p, eAld_a, kLen_p, eLen_a, kEIf_p, eIf_a, kCast_p, eCast_a, aN_a, kC2_p, kC_p, aC_a, kCS_p, eCallS_a, kCV2_p, kCV1_p, eCallV_a, kN2_p, kN1_p, eNew_a, kNA_p, eNewA_a, kSt3_p, kSt2_p, kSt1_p, eSt_a, kSA2_p, kSA1_p, eSetA_a, eZ_a, eMi_a, kCl_p, eCls_a, kAnd_p, cAnd_a, kOr_p, cOr_a, cNot_a, cZ_a, cNul_a, cNN_a, cAeq_a, cAne_a, kObj_p, sObj_a, kSup2_p, kSup1_p, sSup_a, kCp5_p, kCp4_p, kCp3_p, kCp2_p, kCp1_p, sCpI_a, qEq, qNe, qLt, qGe, qGt, qLe, rGt_s, rLt_s, stL, stL2, kill, List.getElem?_cons_zero, List.getElem?_cons_succ, gI_i, gJ_l, gR_r, gR_0, rf_s, rf_n, Option.bind_some, Option.bind_none, mR_r, cat_i, cat_r, cat_0, cat_d, cat_l, ↓reduceIte, reduceCtorEq, Nat.reduceSub, Nat.reduceAdd, Nat.reduceMul, Nat.reduceLT, Nat.reduceLeDiff, Nat.reduceEqDiff, and_true, true_and, and_false, false_and, or_false, false_or, or_true, true_or, not_true_eq_false, not_false_eq_true, decide_true, decide_false, eq_self, Bool.false_eq_true, decide_eq_true_eq, Bool.and_eq_true, Bool.or_eq_true, Bool.not_eq_true', decide_eq_false_iff_not, decide_not, Bool.not_true, Bool.not_false, Bool.and_true, Bool.true_and, Bool.and_false, Bool.false_and, Bool.or_true, Bool.true_or, Bool.or_false, Bool.false_or, Bool.and_self, Bool.or_self, Bool.true_eq_false, Bool.and_eq_false_imp, Bool.or_eq_false_iff, jI, jJ, jA, o_iadd, o_isub, o_imul, o_iand, o_ior, o_ishl, o_ishr, o_ladd, o_lsub, o_lmul, o_i2l, o_l2i, o_i2b, o_ineg, if_bI, bI_z, bI_01, ifs, if_and, if_or, if_10, bI_zn, bI_nz, ifl, ifcons, ifint, iflong, ite_self, if_inc, Bool.decide_eq_true, Bool.decide_and, Bool.decide_or, xA_hh, xT_hh, xN_hh, xS_hh, xI_0, xI_c, xI_m, xI_o, xJ_0, xJ_m, sI_0, sI_c, sI_m, sI_o, sJ_0, sJ_m, sA_hh, u2_s, u2_n, xT_sI, xT_sA, xN_sI, xN_sA, xA_sI, xI_sA, xI_sI, xA_sA, xN_nw, xT_nw, xT_nn, xI_nw, xI_nn, xA_nw, xA_nn, iN_nat, l_nat, l_lt_T, l_lt_F, l_le_T, l_le_F, l_eq_F, iN_lt, iN_le, iN_eq, iN_lt_l, iN_le_l, iN_eq_l, l_lt_iN, l_le_iN, l_eq_iN, iN_eq_n, n_eq_iN, iN_le_n, iN_lt_n, iN_add, iN_mul, iN_add_l, l_add_iN, l_mul_iN, iN_sub, iN_sub_l, sub1_le, le_F, lt_T, lt_F, le_T, eq_F, sa_0_6 hs, st_0 hs, st_7 hs, tb, ts, ea, x8, yend, t1b, t1s, y0, y0b, cto, c4, t01, s06, t71, sI_o hgb, xI_o hgb, xI_o hgs]
end LA
