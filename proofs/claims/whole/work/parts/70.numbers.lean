/-! the rounds' numbers -/
section RN
variable {x N : Nat} {z : Nat × Nat} {h : XH} {C M : Nat → Nat → Int32} {P Q : Nat → Nat → Int64} {A : Nat → Nat → Nat} {n : Nat → Nat} {c : Nat}
def rv (M : Nat → Nat → Int32) (l : Nat) : Nat := (M 29 l).toNatClampNeg
def rn (M : Nat → Nat → Int32) : Nat := (M 0 12).toNatClampNeg
def rt (M : Nat → Nat → Int32) (l : Nat) : Nat := (M 30 l).toNatClampNeg - (M 0 12).toNatClampNeg
def rp (M : Nat → Nat → Int32) (s : Nat) : Nat := (q_fl M s).toNatClampNeg
def tk (p v : Nat) : Nat := 2 * p * v + 4
theorem tk_le {p v : Nat} (hp : p ≤ 3) (hv : v ≤ 9) : tk p v ≤ 58 := by
  unfold tk
  have : 2 * p * v ≤ 6 * 9 := Nat.mul_le_mul (by omega) hv
  omega
theorem rn_v (hI : Inv x z A h C M P Q n c) {l : Nat} (hl : l < 3) : M 29 l = iN (rv M l) ∧ 1 ≤ rv M l ∧ rv M l ≤ 9 := by
  obtain ⟨v, h1, h2, e⟩ := hI.ok.pc l hl
  unfold rv
  rw [e, iN_nat (by omega)]
  exact ⟨rfl, h1, h2⟩
theorem rn_w (hI : Inv x z A h C M P Q n c) : M 0 12 = iN (rn M) ∧ rn M ≤ 99999 := by
  obtain ⟨w, hw, e1⟩ := hI.ok.now
  unfold rn
  rw [e1, iN_nat (by omega)]
  exact ⟨rfl, hw⟩
theorem rn_t (hI : Inv x z A h C M P Q n c) {l : Nat} (hl : l < 3) : q_fv M l = iN (rt M l) ∧ q_ff M l = iN (rt M l + rn M) ∧ rt M l ≤ 99999 := by
  obtain ⟨w, hw, e1⟩ := hI.ok.now
  obtain ⟨t, ht, e2⟩ := hI.ok.fr l hl
  have := ff_fv hw ht e1 e2
  unfold rt rn
  rw [e1, e2, iN_nat (by omega), iN_nat (by omega)]
  refine ⟨this.1, ?_, by omega⟩
  rw [this.2]
  congr 1
  omega
theorem half8 : ∀ k, k < 8 → iN k / 2 = iN (k / 2) := by decide
theorem rn_p (hI : Inv x z A h C M P Q n c) {s : Nat} (hs : s < n 1) : q_fl M s = iN (rp M s) ∧ rp M s ≤ 3 := by
  have bb0 := hI.cn.b0; have bb1 := hI.cn.b1; have bb2 := hI.cn.b2; have bb3 := hI.cn.b3; have bb4 := hI.cn.b4; have bb5 := hI.cn.b5; have bb6 := hI.cn.b6
  obtain ⟨b, hb, eb, ep⟩ := (hI.sl s hs).b
  obtain ⟨k, hk, ek⟩ := (hI.ok.bk b hb).s
  have e : q_fl M s = iN (k / 2) := by
    unfold q_fl
    rw [eb, iN_nat (by omega), ek, half8 k hk]
  unfold rp
  rw [e, iN_nat (by omega)]
  exact ⟨rfl, by omega⟩
theorem rn_tk (hI : Inv x z A h C M P Q n c) {s f : Nat} (hs : s < n 1) (hf : f < 3) : ∃ b, b < 24 ∧ M 25 s = iN b ∧ q_takes M f b = iN (tk (rp M s) (rv M f)) := by
  have bb0 := hI.cn.b0; have bb1 := hI.cn.b1; have bb2 := hI.cn.b2; have bb3 := hI.cn.b3; have bb4 := hI.cn.b4; have bb5 := hI.cn.b5; have bb6 := hI.cn.b6
  obtain ⟨b, hb, eb, ep⟩ := (hI.sl s hs).b
  refine ⟨b, by omega, eb, ?_⟩
  have e := (rn_p hI hs).1
  unfold q_fl at e
  rw [eb, iN_nat (by omega)] at e
  unfold q_takes tk
  rw [e, (rn_v hI hf).1, l_mul_iN, iN_mul, iN_add_l]
/-- the end of a walk -/
def fe (T v : Nat → Nat) (p l : Nat) : Nat := T l + tk p (v l)
def fq (T v : Nat → Nat) (p : Nat) : Nat → Nat
  | 0 => 0
  | i + 1 => if fe T v p (i + 1) < fe T v p (fq T v p i) then i + 1 else fq T v p i
theorem fq_s (T v : Nat → Nat) (p i : Nat) : fq T v p (i + 1) = if fe T v p (i + 1) < fe T v p (fq T v p i) then i + 1 else fq T v p i := rfl
theorem fq_le (T v : Nat → Nat) (p : Nat) : ∀ i, fq T v p i ≤ i
  | 0 => Nat.le_refl _
  | i + 1 => by
    have := fq_le T v p i
    rw [fq_s]
    split <;> omega
def fT (T v : Nat → Nat) (p : Nat) : Nat → Nat := fun l => if l = fq T v p 2 then fe T v p l else T l
def kZ (T v d : Nat → Nat) : Nat → Nat → Nat
  | 0 => T
  | k + 1 => fT (kZ T v d k) v (d k)
theorem kZ_s (T v d : Nat → Nat) (k : Nat) : kZ T v d (k + 1) = fT (kZ T v d k) v (d k) := rfl
theorem fT_le {T v : Nat → Nat} {p b : Nat} (hp : p ≤ 3) (hv : ∀ l, l < 3 → v l ≤ 9) (hT : ∀ l, l < 3 → T l ≤ b) : ∀ l, l < 3 → fT T v p l ≤ b + 58 := by
  intro l hl
  have h1 := hT l hl
  have h2 := tk_le hp (hv l hl)
  unfold fT fe
  split <;> omega
theorem kZ_le {T v d : Nat → Nat} {b m : Nat} (hd : ∀ k, k < m → d k ≤ 3) (hv : ∀ l, l < 3 → v l ≤ 9) (hT : ∀ l, l < 3 → T l ≤ b) : ∀ k, k ≤ m → ∀ l, l < 3 → kZ T v d k l ≤ b + 58 * k
  | 0, _ => hT
  | k + 1, hk => by
    intro l hl
    have := fT_le (hd k (by omega)) hv (kZ_le hd hv hT k (by omega)) l hl
    rw [kZ_s]
    omega
/-- the class's end of a walk in numbers -/
theorem c_en (hs : Shp x h) {f a p : Nat} {T v : Nat → Nat} (hf : f < 3) (ha : a < 24) (e1 : C 19 f = iN (T f)) (e2 : C 17 a = iN p) (e3 : C 14 f = iN (v f)) : fX7_endOf N z [.ref (x + 13), .int (iN f), .int (iN a)] (hh x h C M P Q) = some (iN (fe T v p f), hh x h C M P Q) := by
  rw [c_eo hs hf ha, e1, e2, e3, l_mul_iN, iN_mul, iN_add_l, iN_add]
  rfl
theorem c_fq (hs : Shp x h) {a p : Nat} {T v : Nat → Nat} (u e : Int32) (ha : a < 24) (e1 : ∀ l, l < 3 → C 19 l = iN (T l)) (e2 : C 17 a = iN p) (e3 : ∀ l, l < 3 → C 14 l = iN (v l)) (b1 : ∀ l, l < 3 → fe T v p l < 2147483648) (hN : 10000 < N) : sLoop (fX7_foretold_1c N z) (fX7_foretold_1b N z) N [.ref (x + 13), .int u, .int e, .int (iN a), .int 0, .int 1] (hh x h C M P Q) = some (.inl ([.ref (x + 13), .int u, .int e, .int (iN a), .int (iN (fq T v p 2)), .int (iN 3)], hh x h C M P Q)) := by
  rw [loop_up (fun i => ([.ref (x + 13), .int u, .int e, .int (iN a), .int (iN (fq T v p i)), .int (iN (i + 1))], hh x h C M P Q)) 2 ?_ ?_ ?_ ?_]
  · intro i hi
    rw [show decide (i < 2) = decide (i + 1 < 3) from decide_eq_decide.2 (by omega)]
    simp -implicitDefEqProofs (disch := first | omega | decide) only [fX7_foretold_1c, mB_s, lay_n, lay_i, lay_r, lay_0, lay_l, List.length_cons, List.length_nil, List.cons_append, List.nil_append, sB, kS_l, kS_r, sSeq_a, sNil_a, kSetI_p, sSetI_a, kSetJ_p, sSetJ_a, kSetA_p, sSetA_a, kInc_p, sInc_a, kPut2_p, kPut1_p, sPut_a, kPutC2_p, kPutC1_p, sPutC_a, kAst3_p, kAst2_p, kAst1_p, sAst_a, kAstC3_p, kAstC2_p, kAstC1_p, sAstC_a, kAstZ3_p, kAstZ2_p, kAstZ1_p, sAstZ_a, kAstO3_p, kAstO2_p, kAstO1_p, sAstO_a, kAstA3_p, kAstA2_p, kAstA1_p, sAstA_a, kX_p, sX_a, kIf_p, sIf_a, kRet_p, sRet_a, kRetZ_p, sRetZ_a, sRetV_a, kSw_p, sSw_a, kPutZ2_p, kPutZ1_p, sPutZ_a, eI_a, eJ_a, eN_a, kL_p, eLI_a, eLJ_a, eLA_a, kT2_p, kT_p, eT_a, kP2_p, kP_p, eP_a, kU_p, eU_a, kGet_p, eGet_a, kAld2_p, kAld1_p, eAld_a, kLen_p, eLen_a, kEIf_p, eIf_a, kCast_p, eCast_a, aN_a, kC2_p, kC_p, aC_a, kCS_p, eCallS_a, kCV2_p, kCV1_p, eCallV_a, kN2_p, kN1_p, eNew_a, kNA_p, eNewA_a, kSt3_p, kSt2_p, kSt1_p, eSt_a, kSA2_p, kSA1_p, eSetA_a, eZ_a, eMi_a, kCl_p, eCls_a, kAnd_p, cAnd_a, kOr_p, cOr_a, cNot_a, cZ_a, cNul_a, cNN_a, cAeq_a, cAne_a, kObj_p, sObj_a, kSup2_p, kSup1_p, sSup_a, kCp5_p, kCp4_p, kCp3_p, kCp2_p, kCp1_p, sCpI_a, qEq, qNe, qLt, qGe, qGt, qLe, rGt_s, rLt_s, stL, stL2, kill, List.getElem?_cons_zero, List.getElem?_cons_succ, gI_i, gJ_l, gR_r, gR_0, rf_s, rf_n, Option.bind_some, Option.bind_none, mR_r, cat_i, cat_r, cat_0, cat_d, cat_l, ↓reduceIte, reduceCtorEq, Nat.reduceSub, Nat.reduceAdd, Nat.reduceMul, Nat.reduceLT, Nat.reduceLeDiff, Nat.reduceEqDiff, and_true, true_and, and_false, false_and, or_false, false_or, or_true, true_or, not_true_eq_false, not_false_eq_true, decide_true, decide_false, eq_self, Bool.false_eq_true, decide_eq_true_eq, Bool.and_eq_true, Bool.or_eq_true, Bool.not_eq_true', decide_eq_false_iff_not, decide_not, Bool.not_true, Bool.not_false, Bool.and_true, Bool.true_and, Bool.and_false, Bool.false_and, Bool.or_true, Bool.true_or, Bool.or_false, Bool.false_or, Bool.and_self, Bool.or_self, Bool.true_eq_false, Bool.and_eq_false_imp, Bool.or_eq_false_iff, jI, jJ, jA, o_iadd, o_isub, o_imul, o_iand, o_ior, o_ishl, o_ishr, o_ladd, o_lsub, o_lmul, o_i2l, o_l2i, o_i2b, o_ineg, if_bI, bI_z, bI_01, ifs, if_and, if_or, if_10, bI_zn, bI_nz, ifl, ifcons, ifint, iflong, ite_self, if_inc, Bool.decide_eq_true, Bool.decide_and, Bool.decide_or, xA_hh, xT_hh, xN_hh, xS_hh, xI_0, xI_c, xI_m, xI_o, xJ_0, xJ_m, sI_0, sI_c, sI_m, sI_o, sJ_0, sJ_m, sA_hh, u2_s, u2_n, xT_sI, xT_sA, xN_sI, xN_sA, xA_sI, xI_sA, xI_sI, xA_sA, xN_nw, xT_nw, xT_nn, xI_nw, xI_nn, xA_nw, xA_nn, iN_nat, l_nat, l_lt_T, l_lt_F, l_le_T, l_le_F, l_eq_F, iN_lt, iN_le, iN_eq, iN_lt_l, iN_le_l, iN_eq_l, l_lt_iN, l_le_iN, l_eq_iN, iN_eq_n, n_eq_iN, iN_le_n, iN_lt_n, iN_add, iN_mul, iN_add_l, l_add_iN, l_mul_iN, iN_sub, iN_sub_l, sub1_le, le_F, lt_T, lt_F, le_T, eq_F]
  · intro i hi
    have hq := fq_le T v p i
    have y1 := c_en (N := N) (z := z) (M := M) (P := P) (Q := Q) hs (f := i + 1) (by omega) ha (e1 _ (by omega)) e2 (e3 _ (by omega))
    have y2 := c_en (N := N) (z := z) (M := M) (P := P) (Q := Q) hs (f := fq T v p i) (by omega) ha (e1 _ (by omega)) e2 (e3 _ (by omega))
    have b2 := b1 (i + 1) (by omega)
    have b3 := b1 (fq T v p i) (by omega)
    by_cases w : fe T v p (i + 1) < fe T v p (fq T v p i)
    · simp -implicitDefEqProofs (disch := first | omega | decide) only [fX7_foretold_1b, mB_s, lay_n, lay_i, lay_r, lay_0, lay_l, List.length_cons, List.length_nil, List.cons_append, List.nil_append, sB, kS_l, kS_r, sSeq_a, sNil_a, kSetI_p, sSetI_a, kSetJ_p, sSetJ_a, kSetA_p, sSetA_a, kInc_p, sInc_a, kPut2_p, kPut1_p, sPut_a, kPutC2_p, kPutC1_p, sPutC_a, kAst3_p, kAst2_p, kAst1_p, sAst_a, kAstC3_p, kAstC2_p, kAstC1_p, sAstC_a, kAstZ3_p, kAstZ2_p, kAstZ1_p, sAstZ_a, kAstO3_p, kAstO2_p, kAstO1_p, sAstO_a, kAstA3_p, kAstA2_p, kAstA1_p, sAstA_a, kX_p, sX_a, kIf_p, sIf_a, kRet_p, sRet_a, kRetZ_p, sRetZ_a, sRetV_a, kSw_p, sSw_a, kPutZ2_p, kPutZ1_p, sPutZ_a, eI_a, eJ_a, eN_a, kL_p, eLI_a, eLJ_a, eLA_a, kT2_p, kT_p, eT_a, kP2_p, kP_p, eP_a, kU_p, eU_a, kGet_p, eGet_a, kAld2_p, kAld1_p, eAld_a, kLen_p, eLen_a, kEIf_p, eIf_a, kCast_p, eCast_a, aN_a, kC2_p, kC_p, aC_a, kCS_p, eCallS_a, kCV2_p, kCV1_p, eCallV_a, kN2_p, kN1_p, eNew_a, kNA_p, eNewA_a, kSt3_p, kSt2_p, kSt1_p, eSt_a, kSA2_p, kSA1_p, eSetA_a, eZ_a, eMi_a, kCl_p, eCls_a, kAnd_p, cAnd_a, kOr_p, cOr_a, cNot_a, cZ_a, cNul_a, cNN_a, cAeq_a, cAne_a, kObj_p, sObj_a, kSup2_p, kSup1_p, sSup_a, kCp5_p, kCp4_p, kCp3_p, kCp2_p, kCp1_p, sCpI_a, qEq, qNe, qLt, qGe, qGt, qLe, rGt_s, rLt_s, stL, stL2, kill, List.getElem?_cons_zero, List.getElem?_cons_succ, gI_i, gJ_l, gR_r, gR_0, rf_s, rf_n, Option.bind_some, Option.bind_none, mR_r, cat_i, cat_r, cat_0, cat_d, cat_l, ↓reduceIte, reduceCtorEq, Nat.reduceSub, Nat.reduceAdd, Nat.reduceMul, Nat.reduceLT, Nat.reduceLeDiff, Nat.reduceEqDiff, and_true, true_and, and_false, false_and, or_false, false_or, or_true, true_or, not_true_eq_false, not_false_eq_true, decide_true, decide_false, eq_self, Bool.false_eq_true, decide_eq_true_eq, Bool.and_eq_true, Bool.or_eq_true, Bool.not_eq_true', decide_eq_false_iff_not, decide_not, Bool.not_true, Bool.not_false, Bool.and_true, Bool.true_and, Bool.and_false, Bool.false_and, Bool.or_true, Bool.true_or, Bool.or_false, Bool.false_or, Bool.and_self, Bool.or_self, Bool.true_eq_false, Bool.and_eq_false_imp, Bool.or_eq_false_iff, jI, jJ, jA, o_iadd, o_isub, o_imul, o_iand, o_ior, o_ishl, o_ishr, o_ladd, o_lsub, o_lmul, o_i2l, o_l2i, o_i2b, o_ineg, if_bI, bI_z, bI_01, ifs, if_and, if_or, if_10, bI_zn, bI_nz, ifl, ifcons, ifint, iflong, ite_self, if_inc, Bool.decide_eq_true, Bool.decide_and, Bool.decide_or, xA_hh, xT_hh, xN_hh, xS_hh, xI_0, xI_c, xI_m, xI_o, xJ_0, xJ_m, sI_0, sI_c, sI_m, sI_o, sJ_0, sJ_m, sA_hh, u2_s, u2_n, xT_sI, xT_sA, xN_sI, xN_sA, xA_sI, xI_sA, xI_sI, xA_sA, xN_nw, xT_nw, xT_nn, xI_nw, xI_nn, xA_nw, xA_nn, iN_nat, l_nat, l_lt_T, l_lt_F, l_le_T, l_le_F, l_eq_F, iN_lt, iN_le, iN_eq, iN_lt_l, iN_le_l, iN_eq_l, l_lt_iN, l_le_iN, l_eq_iN, iN_eq_n, n_eq_iN, iN_le_n, iN_lt_n, iN_add, iN_mul, iN_add_l, l_add_iN, l_mul_iN, iN_sub, iN_sub_l, sub1_le, le_F, lt_T, lt_F, le_T, eq_F, st_13 hs, st_13 hs, y1, y2, w, fq_s]
    · simp -implicitDefEqProofs (disch := first | omega | decide) only [fX7_foretold_1b, mB_s, lay_n, lay_i, lay_r, lay_0, lay_l, List.length_cons, List.length_nil, List.cons_append, List.nil_append, sB, kS_l, kS_r, sSeq_a, sNil_a, kSetI_p, sSetI_a, kSetJ_p, sSetJ_a, kSetA_p, sSetA_a, kInc_p, sInc_a, kPut2_p, kPut1_p, sPut_a, kPutC2_p, kPutC1_p, sPutC_a, kAst3_p, kAst2_p, kAst1_p, sAst_a, kAstC3_p, kAstC2_p, kAstC1_p, sAstC_a, kAstZ3_p, kAstZ2_p, kAstZ1_p, sAstZ_a, kAstO3_p, kAstO2_p, kAstO1_p, sAstO_a, kAstA3_p, kAstA2_p, kAstA1_p, sAstA_a, kX_p, sX_a, kIf_p, sIf_a, kRet_p, sRet_a, kRetZ_p, sRetZ_a, sRetV_a, kSw_p, sSw_a, kPutZ2_p, kPutZ1_p, sPutZ_a, eI_a, eJ_a, eN_a, kL_p, eLI_a, eLJ_a, eLA_a, kT2_p, kT_p, eT_a, kP2_p, kP_p, eP_a, kU_p, eU_a, kGet_p, eGet_a, kAld2_p, kAld1_p, eAld_a, kLen_p, eLen_a, kEIf_p, eIf_a, kCast_p, eCast_a, aN_a, kC2_p, kC_p, aC_a, kCS_p, eCallS_a, kCV2_p, kCV1_p, eCallV_a, kN2_p, kN1_p, eNew_a, kNA_p, eNewA_a, kSt3_p, kSt2_p, kSt1_p, eSt_a, kSA2_p, kSA1_p, eSetA_a, eZ_a, eMi_a, kCl_p, eCls_a, kAnd_p, cAnd_a, kOr_p, cOr_a, cNot_a, cZ_a, cNul_a, cNN_a, cAeq_a, cAne_a, kObj_p, sObj_a, kSup2_p, kSup1_p, sSup_a, kCp5_p, kCp4_p, kCp3_p, kCp2_p, kCp1_p, sCpI_a, qEq, qNe, qLt, qGe, qGt, qLe, rGt_s, rLt_s, stL, stL2, kill, List.getElem?_cons_zero, List.getElem?_cons_succ, gI_i, gJ_l, gR_r, gR_0, rf_s, rf_n, Option.bind_some, Option.bind_none, mR_r, cat_i, cat_r, cat_0, cat_d, cat_l, ↓reduceIte, reduceCtorEq, Nat.reduceSub, Nat.reduceAdd, Nat.reduceMul, Nat.reduceLT, Nat.reduceLeDiff, Nat.reduceEqDiff, and_true, true_and, and_false, false_and, or_false, false_or, or_true, true_or, not_true_eq_false, not_false_eq_true, decide_true, decide_false, eq_self, Bool.false_eq_true, decide_eq_true_eq, Bool.and_eq_true, Bool.or_eq_true, Bool.not_eq_true', decide_eq_false_iff_not, decide_not, Bool.not_true, Bool.not_false, Bool.and_true, Bool.true_and, Bool.and_false, Bool.false_and, Bool.or_true, Bool.true_or, Bool.or_false, Bool.false_or, Bool.and_self, Bool.or_self, Bool.true_eq_false, Bool.and_eq_false_imp, Bool.or_eq_false_iff, jI, jJ, jA, o_iadd, o_isub, o_imul, o_iand, o_ior, o_ishl, o_ishr, o_ladd, o_lsub, o_lmul, o_i2l, o_l2i, o_i2b, o_ineg, if_bI, bI_z, bI_01, ifs, if_and, if_or, if_10, bI_zn, bI_nz, ifl, ifcons, ifint, iflong, ite_self, if_inc, Bool.decide_eq_true, Bool.decide_and, Bool.decide_or, xA_hh, xT_hh, xN_hh, xS_hh, xI_0, xI_c, xI_m, xI_o, xJ_0, xJ_m, sI_0, sI_c, sI_m, sI_o, sJ_0, sJ_m, sA_hh, u2_s, u2_n, xT_sI, xT_sA, xN_sI, xN_sA, xA_sI, xI_sA, xI_sI, xA_sA, xN_nw, xT_nw, xT_nn, xI_nw, xI_nn, xA_nw, xA_nn, iN_nat, l_nat, l_lt_T, l_lt_F, l_le_T, l_le_F, l_eq_F, iN_lt, iN_le, iN_eq, iN_lt_l, iN_le_l, iN_eq_l, l_lt_iN, l_le_iN, l_eq_iN, iN_eq_n, n_eq_iN, iN_le_n, iN_lt_n, iN_add, iN_mul, iN_add_l, l_add_iN, l_mul_iN, iN_sub, iN_sub_l, sub1_le, le_F, lt_T, lt_F, le_T, eq_F, st_13 hs, st_13 hs, y1, y2, w, fq_s]
  · omega
  · rfl
end RN
