/-! the class's made objects: where the i-th of each kind lies, and the lists of them -/
def ltg (c : Nat) : Nat × Nat := match c with
  | 0 => (2, 11)
  | 1 => (12, 6)
  | 2 => (11, 3)
  | 3 => (7, 3)
  | 4 => (5, 4)
  | 5 => (4, 2)
  | 6 => (6, 7)
  | _ => (100, 4)
def lof (j : Nat) : Nat := match j with
  | 6 => 10
  | j => 3 + j
theorem lof_lt {j : Nat} (hj : j < 7) : lof j < 65 := by
  rcases j with _ | _ | _ | _ | _ | _ | _ | j
  all_goals first | decide | omega
def up1 (n : Nat → Nat) (c v : Nat) : Nat → Nat := fun c' => if c' = c then v else n c'
def swp (A : Nat → Nat → Nat) (c k a : Nat) : Nat → Nat → Nat := fun c' i' => if c' = c ∧ i' = k then a else if A c' i' = a then A c k else A c' i'
theorem swp_s (A : Nat → Nat → Nat) (c k a : Nat) : swp A c k a c k = a := by simp [swp]
theorem swp_n {A : Nat → Nat → Nat} {c k a c' i' : Nat} (h1 : A c' i' < a) (h2 : c' ≠ c ∨ i' ≠ k) : swp A c k a c' i' = A c' i' := by
  unfold swp
  rw [if_neg (by omega), if_neg (by omega)]
theorem swp_inj {A : Nat → Nat → Nat} (hi : ∀ c i c' i', A c i = A c' i' → c = c' ∧ i = i') (c k a : Nat) : ∀ c1 i1 c2 i2, swp A c k a c1 i1 = swp A c k a c2 i2 → c1 = c2 ∧ i1 = i2 := by
  intro c1 i1 c2 i2 e
  unfold swp at e
  by_cases p1 : c1 = c ∧ i1 = k
  · rw [if_pos p1] at e
    by_cases p2 : c2 = c ∧ i2 = k
    · exact ⟨p1.1.trans p2.1.symm, p1.2.trans p2.2.symm⟩
    · rw [if_neg p2] at e
      by_cases q2 : A c2 i2 = a
      · rw [if_pos q2] at e
        exact absurd (hi _ _ _ _ (q2.trans e)) p2
      · rw [if_neg q2] at e
        exact absurd e.symm q2
  · rw [if_neg p1] at e
    by_cases p2 : c2 = c ∧ i2 = k
    · rw [if_pos p2] at e
      by_cases q1 : A c1 i1 = a
      · rw [if_pos q1] at e
        exact absurd (hi _ _ _ _ (q1.trans e.symm)) p1
      · rw [if_neg q1] at e
        exact absurd e q1
    · rw [if_neg p2] at e
      by_cases q1 : A c1 i1 = a
      · rw [if_pos q1] at e
        by_cases q2 : A c2 i2 = a
        · exact hi _ _ _ _ (q1.trans q2.symm)
        · rw [if_neg q2] at e
          exact absurd (hi _ _ _ _ e.symm) p2
      · rw [if_neg q1] at e
        by_cases q2 : A c2 i2 = a
        · rw [if_pos q2] at e
          exact absurd (hi _ _ _ _ e) p1
        · rw [if_neg q2] at e
          exact hi _ _ _ _ e
theorem swp_ge {A : Nat → Nat → Nat} {x a c k : Nat} (hg : ∀ c i, x + 115 ≤ A c i) (ha : x + 115 ≤ a) : ∀ c' i', x + 115 ≤ swp A c k a c' i' := by
  intro c' i'
  unfold swp
  split
  · exact ha
  · split
    · exact hg _ _
    · exact hg _ _
def Dy (x : Nat) (z : Nat × Nat) (A : Nat → Nat → Nat) (h : XH) (n l : Nat → Nat) : Prop :=
  (∀ c i c' i', A c i = A c' i' → c = c' ∧ i = i') ∧ (∀ c i, x + 115 ≤ A c i) ∧
  (∀ c i, c < 8 → i < n c → A c i < xN h ∧ xT h (A c i) = ltg c) ∧
  (∀ j, j < 7 → l j ≤ n j ∧ ((∃ cap, xA h (x + lof j) 1 = some (A 8 j) ∧ A 8 j < xN h ∧ xT h (A 8 j) = (105, cap) ∧ l j ≤ cap ∧ cap ≤ 200 ∧ 0 < cap ∧ ∀ i, i < l j → xA h (A 8 j) i = some (A j i)) ∨ (l j = 0 ∧ xA h (x + lof j) 1 = some z.1))) ∧
  (z.1 < x ∧ xT h z.1 = (205, 0) ∧ x + 115 ≤ xN h)
section DY
variable {x N : Nat} {z : Nat × Nat} {h : XH} {C M : Nat → Nat → Int32} {P Q : Nat → Nat → Int64} {A : Nat → Nat → Nat} {n l : Nat → Nat}
theorem Dy.aa (hd : Dy x z A h n l) (c i c' i' : Nat) : (A c i = A c' i') = (c = c' ∧ i = i') := propext ⟨hd.1 c i c' i', fun e => by rw [e.1, e.2]⟩
theorem Dy.t (hd : Dy x z A h n l) {c i : Nat} (hc : c < 8) (hi : i < n c) : xT h (A c i) = ltg c := (hd.2.2.1 c i hc hi).2
theorem Dy.b (hd : Dy x z A h n l) {c i : Nat} (hc : c < 8) (hi : i < n c) : A c i < xN h := (hd.2.2.1 c i hc hi).1
theorem Dy.g (hd : Dy x z A h n l) (c i : Nat) : x + 115 ≤ A c i := hd.2.1 c i
theorem Dy.nx (hd : Dy x z A h n l) : x + 115 ≤ xN h := hd.2.2.2.2.2.2
theorem Dy.xI (hd : Dy x z A h n l) {c i k : Nat} : xI (hh x h C M P Q) (A c i) k = xI h (A c i) k := xI_o (hd.g c i)
theorem Dy.sI (hd : Dy x z A h n l) {c i k : Nat} {v : Int32} : sI (hh x h C M P Q) (A c i) k v = hh x (sI h (A c i) k v) C M P Q := sI_o (hd.g c i)
/-- an object more of kind c, at the next address -/
theorem Dy.reg (hd : Dy x z A h n l) {h2 : XH} {c : Nat} (hc : c < 8) (hN : xN h < xN h2) (hT : ∀ b, b < xN h → xT h2 b = xT h b) (hA : ∀ b k, b < xN h → xA h2 b k = xA h b k) (ht : xT h2 (xN h) = ltg c) : Dy x z (swp A c (n c) (xN h)) h2 (up1 n c (n c + 1)) l := by
  obtain ⟨d1, d2, d3, d4, d5, d6, d7⟩ := hd
  refine ⟨swp_inj d1 _ _ _, swp_ge d2 d7, ?_, ?_, d5, by rw [hT _ (by omega)]; exact d6, by omega⟩
  · intro c' i' hc' hi'
    by_cases p : c' = c ∧ i' = n c
    · rw [p.1, p.2, swp_s]
      exact ⟨hN, ht⟩
    · have hi2 : i' < n c' := by
        unfold up1 at hi'
        split at hi'
        · rename_i e
          subst e
          have : i' ≠ n c' := fun q => p ⟨rfl, q⟩
          omega
        · exact hi'
      have := d3 c' i' hc' hi2
      rw [swp_n this.1 (by omega)]
      exact ⟨by omega, by rw [hT _ this.1]; exact this.2⟩
  · intro j hj
    have hlo := lof_lt hj
    obtain ⟨e1, e2⟩ := d4 j hj
    have e1' : l j ≤ up1 n c (n c + 1) j := by
      unfold up1
      by_cases q : j = c
      · subst q
        rw [if_pos rfl]
        omega
      · rw [if_neg q]
        exact e1
    refine ⟨e1', ?_⟩
    rcases e2 with ⟨cap, f1, f2, f3, f4, f5, f6, f7⟩ | ⟨f1, f2⟩
    · left
      refine ⟨cap, ?_, ?_, ?_, f4, f5, f6, ?_⟩
      · rw [hA _ _ (by omega), swp_n f2 (by omega)]
        exact f1
      · rw [swp_n f2 (by omega)]; omega
      · rw [swp_n f2 (by omega), hT _ f2]; exact f3
      · intro i hi
        have hb := (d3 j i (by omega) (by omega)).1
        have hq : j ≠ c ∨ i ≠ n c := by
          by_cases q : j = c
          · subst q
            omega
          · exact Or.inl q
        rw [swp_n f2 (by omega), hA _ _ f2, f7 i hi, swp_n hb hq]
    · right
      exact ⟨f1, by rw [hA _ _ (by omega)]; exact f2⟩
/-- writes that leave kinds and pointers of what the lists hold -/
theorem Dy.same (hd : Dy x z A h n l) {h2 : XH} (hN : xN h ≤ xN h2) (hT : ∀ b, b < xN h → xT h2 b = xT h b) (hA : ∀ j k, j < 7 → xA h2 (A 8 j) k = xA h (A 8 j) k) (hL : ∀ j, j < 7 → xA h2 (x + lof j) 1 = xA h (x + lof j) 1) : Dy x z A h2 n l := by
  obtain ⟨d1, d2, d3, d4, d5, d6, d7⟩ := hd
  refine ⟨d1, d2, ?_, ?_, d5, by rw [hT _ (by omega)]; exact d6, by omega⟩
  · intro c' i' hc' hi'
    have := d3 c' i' hc' hi'
    exact ⟨by omega, by rw [hT _ this.1]; exact this.2⟩
  · intro j hj
    obtain ⟨e1, e2⟩ := d4 j hj
    refine ⟨e1, ?_⟩
    rcases e2 with ⟨cap, f1, f2, f3, f4, f5, f6, f7⟩ | ⟨f1, f2⟩
    · left
      refine ⟨cap, by rw [hL _ hj]; exact f1, by omega, by rw [hT _ f2]; exact f3, f4, f5, f6, fun i hi => ?_⟩
      rw [hA _ _ hj]
      exact f7 i hi
    · right
      exact ⟨f1, by rw [hL _ hj]; exact f2⟩
theorem l_size {o : Nat} (ho : o < 65) (ht : xT h (x + o) = (1, 3)) : fJx4a65c_size_8abf5 N z [.ref (x + o)] (hh x h C M P Q) = some (C o 2, hh x h C M P Q) := by
  simp -implicitDefEqProofs (disch := first | omega | decide) only [fJx4a65c_size_8abf5, mB_s, lay_n, lay_i, lay_r, lay_0, lay_l, List.length_cons, List.length_nil, List.cons_append, List.nil_append, sB, kS_l, kS_r, sSeq_a, sNil_a, kSetI_p, sSetI_a, kSetJ_p, sSetJ_a, kSetA_p, sSetA_a, kInc_p, sInc_a, kPut2_p, kPut1_p, sPut_a, kPutC2_p, kPutC1_p, sPutC_a, kAst3_p, kAst2_p, kAst1_p, sAst_a, kAstC3_p, kAstC2_p, kAstC1_p, sAstC_a, kAstZ3_p, kAstZ2_p, kAstZ1_p, sAstZ_a, kAstO3_p, kAstO2_p, kAstO1_p, sAstO_a, kAstA3_p, kAstA2_p, kAstA1_p, sAstA_a, kX_p, sX_a, kIf_p, sIf_a, kRet_p, sRet_a, kRetZ_p, sRetZ_a, sRetV_a, kSw_p, sSw_a, kPutZ2_p, kPutZ1_p, sPutZ_a, eI_a, eJ_a, eN_a, kL_p, eLI_a, eLJ_a, eLA_a, kT2_p, kT_p, eT_a, kP2_p, kP_p, eP_a, kU_p, eU_a, kGet_p, eGet_a, kAld2_p, kAld1_p, eAld_a, kLen_p, eLen_a, kEIf_p, eIf_a, kCast_p, eCast_a, aN_a, kC2_p, kC_p, aC_a, kCS_p, eCallS_a, kCV2_p, kCV1_p, eCallV_a, kN2_p, kN1_p, eNew_a, kNA_p, eNewA_a, kSt3_p, kSt2_p, kSt1_p, eSt_a, kSA2_p, kSA1_p, eSetA_a, eZ_a, eMi_a, kCl_p, eCls_a, kAnd_p, cAnd_a, kOr_p, cOr_a, cNot_a, cZ_a, cNul_a, cNN_a, cAeq_a, cAne_a, kObj_p, sObj_a, kSup2_p, kSup1_p, sSup_a, kCp5_p, kCp4_p, kCp3_p, kCp2_p, kCp1_p, sCpI_a, qEq, qNe, qLt, qGe, qGt, qLe, rGt_s, rLt_s, stL, stL2, kill, List.getElem?_cons_zero, List.getElem?_cons_succ, gI_i, gJ_l, gR_r, gR_0, rf_s, rf_n, Option.bind_some, Option.bind_none, mR_r, cat_i, cat_r, cat_0, cat_d, cat_l, ↓reduceIte, reduceCtorEq, Nat.reduceSub, Nat.reduceAdd, Nat.reduceMul, Nat.reduceLT, Nat.reduceLeDiff, Nat.reduceEqDiff, and_true, true_and, and_false, false_and, or_false, false_or, or_true, true_or, not_true_eq_false, not_false_eq_true, decide_true, decide_false, eq_self, Bool.false_eq_true, decide_eq_true_eq, Bool.and_eq_true, Bool.or_eq_true, Bool.not_eq_true', decide_eq_false_iff_not, decide_not, Bool.not_true, Bool.not_false, Bool.and_true, Bool.true_and, Bool.and_false, Bool.false_and, Bool.or_true, Bool.true_or, Bool.or_false, Bool.false_or, Bool.and_self, Bool.or_self, Bool.true_eq_false, Bool.and_eq_false_imp, Bool.or_eq_false_iff, jI, jJ, jA, o_iadd, o_isub, o_imul, o_iand, o_ior, o_ishl, o_ishr, o_ladd, o_lsub, o_lmul, o_i2l, o_l2i, o_i2b, o_ineg, if_bI, bI_z, bI_01, ifs, if_and, if_or, if_10, bI_zn, bI_nz, ifl, ifcons, ifint, iflong, ite_self, if_inc, Bool.decide_eq_true, Bool.decide_and, Bool.decide_or, xA_hh, xT_hh, xN_hh, xS_hh, xI_0, xI_c, xI_m, xI_o, xJ_0, xJ_m, sI_0, sI_c, sI_m, sI_o, sJ_0, sJ_m, sA_hh, u2_s, u2_n, xT_sI, xT_sA, xN_sI, xN_sA, xA_sI, xI_sA, xI_sI, xA_sA, xN_nw, xT_nw, xT_nn, xI_nw, xI_nn, xA_nw, xA_nn, iN_nat, l_nat, l_lt_T, l_lt_F, l_le_T, l_le_F, l_eq_F, iN_lt, iN_le, iN_eq, iN_lt_l, iN_le_l, iN_eq_l, l_lt_iN, l_le_iN, l_eq_iN, iN_eq_n, n_eq_iN, iN_le_n, iN_lt_n, iN_add, iN_mul, iN_add_l, l_add_iN, l_mul_iN, iN_sub, iN_sub_l, sub1_le, le_F, lt_T, lt_F, le_T, eq_F, ht]
theorem l_get {j o : Nat} (hj : j < 7) (ho : lof j = o) (ht : xT h (x + o) = (1, 3)) (hd : Dy x z A h n l) (hC : C o 2 = iN (l j)) (hn : l j ≤ 100) {i : Nat} (hi : i < l j) : fJx4a65c_get_915e3 N z [.ref (x + o), .int (iN i)] (hh x h C M P Q) = some (some (A j i), hh x h C M P Q) := by
  have hlo := lof_lt hj
  rw [ho] at hlo
  rcases (hd.2.2.2.1 j hj).2 with ⟨cap, f1, f2, f3, f4, f5, f6, f7⟩ | ⟨f1, f2⟩
  · rw [ho] at f1
    simp -implicitDefEqProofs (disch := first | omega | decide) only [fJx4a65c_get_915e3, fJ15_checkIndex_7cf53, fJ3_checkIndex_8e157, fJx4a65c_elementData_915e3, mB_s, lay_n, lay_i, lay_r, lay_0, lay_l, List.length_cons, List.length_nil, List.cons_append, List.nil_append, sB, kS_l, kS_r, sSeq_a, sNil_a, kSetI_p, sSetI_a, kSetJ_p, sSetJ_a, kSetA_p, sSetA_a, kInc_p, sInc_a, kPut2_p, kPut1_p, sPut_a, kPutC2_p, kPutC1_p, sPutC_a, kAst3_p, kAst2_p, kAst1_p, sAst_a, kAstC3_p, kAstC2_p, kAstC1_p, sAstC_a, kAstZ3_p, kAstZ2_p, kAstZ1_p, sAstZ_a, kAstO3_p, kAstO2_p, kAstO1_p, sAstO_a, kAstA3_p, kAstA2_p, kAstA1_p, sAstA_a, kX_p, sX_a, kIf_p, sIf_a, kRet_p, sRet_a, kRetZ_p, sRetZ_a, sRetV_a, kSw_p, sSw_a, kPutZ2_p, kPutZ1_p, sPutZ_a, eI_a, eJ_a, eN_a, kL_p, eLI_a, eLJ_a, eLA_a, kT2_p, kT_p, eT_a, kP2_p, kP_p, eP_a, kU_p, eU_a, kGet_p, eGet_a, kAld2_p, kAld1_p, eAld_a, kLen_p, eLen_a, kEIf_p, eIf_a, kCast_p, eCast_a, aN_a, kC2_p, kC_p, aC_a, kCS_p, eCallS_a, kCV2_p, kCV1_p, eCallV_a, kN2_p, kN1_p, eNew_a, kNA_p, eNewA_a, kSt3_p, kSt2_p, kSt1_p, eSt_a, kSA2_p, kSA1_p, eSetA_a, eZ_a, eMi_a, kCl_p, eCls_a, kAnd_p, cAnd_a, kOr_p, cOr_a, cNot_a, cZ_a, cNul_a, cNN_a, cAeq_a, cAne_a, kObj_p, sObj_a, kSup2_p, kSup1_p, sSup_a, kCp5_p, kCp4_p, kCp3_p, kCp2_p, kCp1_p, sCpI_a, qEq, qNe, qLt, qGe, qGt, qLe, rGt_s, rLt_s, stL, stL2, kill, List.getElem?_cons_zero, List.getElem?_cons_succ, gI_i, gJ_l, gR_r, gR_0, rf_s, rf_n, Option.bind_some, Option.bind_none, mR_r, cat_i, cat_r, cat_0, cat_d, cat_l, ↓reduceIte, reduceCtorEq, Nat.reduceSub, Nat.reduceAdd, Nat.reduceMul, Nat.reduceLT, Nat.reduceLeDiff, Nat.reduceEqDiff, and_true, true_and, and_false, false_and, or_false, false_or, or_true, true_or, not_true_eq_false, not_false_eq_true, decide_true, decide_false, eq_self, Bool.false_eq_true, decide_eq_true_eq, Bool.and_eq_true, Bool.or_eq_true, Bool.not_eq_true', decide_eq_false_iff_not, decide_not, Bool.not_true, Bool.not_false, Bool.and_true, Bool.true_and, Bool.and_false, Bool.false_and, Bool.or_true, Bool.true_or, Bool.or_false, Bool.false_or, Bool.and_self, Bool.or_self, Bool.true_eq_false, Bool.and_eq_false_imp, Bool.or_eq_false_iff, jI, jJ, jA, o_iadd, o_isub, o_imul, o_iand, o_ior, o_ishl, o_ishr, o_ladd, o_lsub, o_lmul, o_i2l, o_l2i, o_i2b, o_ineg, if_bI, bI_z, bI_01, ifs, if_and, if_or, if_10, bI_zn, bI_nz, ifl, ifcons, ifint, iflong, ite_self, if_inc, Bool.decide_eq_true, Bool.decide_and, Bool.decide_or, xA_hh, xT_hh, xN_hh, xS_hh, xI_0, xI_c, xI_m, xI_o, xJ_0, xJ_m, sI_0, sI_c, sI_m, sI_o, sJ_0, sJ_m, sA_hh, u2_s, u2_n, xT_sI, xT_sA, xN_sI, xN_sA, xA_sI, xI_sA, xI_sI, xA_sA, xN_nw, xT_nw, xT_nn, xI_nw, xI_nn, xA_nw, xA_nn, iN_nat, l_nat, l_lt_T, l_lt_F, l_le_T, l_le_F, l_eq_F, iN_lt, iN_le, iN_eq, iN_lt_l, iN_le_l, iN_eq_l, l_lt_iN, l_le_iN, l_eq_iN, iN_eq_n, n_eq_iN, iN_le_n, iN_lt_n, iN_add, iN_mul, iN_add_l, l_add_iN, l_mul_iN, iN_sub, iN_sub_l, sub1_le, le_F, lt_T, lt_F, le_T, eq_F, ht, hC, f1, f3, f7 i hi]
  · omega
theorem shr1 : ∀ c, c < 201 → o_ishr (iN c) 1 = iN (c / 2) := by decide +kernel
theorem omax_n {i k : Nat} (hi : i < 2147483648) (hk : k < 2147483648) : oMax (iN i) (iN k) = iN (max i k) := by
  unfold oMax
  simp only [iN_lt hi hk]
  by_cases q : i < k
  · rw [if_pos q, Nat.max_eq_right (by omega)]
  · rw [if_neg q, Nat.max_eq_left (by omega)]
theorem omin_n {i k : Nat} (hi : i < 2147483648) (hk : k < 2147483648) : oMin (iN i) (iN k) = iN (min i k) := by
  unfold oMin
  simp only [iN_lt hk hi]
  by_cases q : k < i
  · rw [if_pos q, Nat.min_eq_right (by omega)]
  · rw [if_neg q, Nat.min_eq_left (by omega)]
/-- what a step leaves of what stood before it -/
def Fr (x : Nat) (A A' : Nat → Nat → Nat) (n : Nat → Nat) (h h' : XH) : Prop :=
  xN h ≤ xN h' ∧ (∀ b, b < xN h → xT h' b = xT h b) ∧ (∀ b k, b < xN h → xI h' b k = xI h b k) ∧ (∀ c i k, c < 8 → i < n c → xA h' (A c i) k = xA h (A c i) k) ∧ (Shp x h → Shp x h') ∧ (xA h' (x + 9) 2 = xA h (x + 9) 2 ∧ xA h' (x + 9) 3 = xA h (x + 9) 3) ∧ (∀ c i, c < 8 → i < n c → A' c i = A c i)
theorem lof_sh {x j : Nat} (hj : j < 7) : ∀ p ∈ shAl, ¬ (x + p.1 = x + lof j ∧ p.2.1 = 1) := by
  intro p hp e
  have key : ∀ j, j < 7 → ∀ p ∈ shAl, ¬ (p.1 = lof j ∧ p.2.1 = 1) := by decide +kernel
  exact key j hj p hp ⟨by omega, e.2⟩
theorem sh_lt : ∀ p ∈ shAl, p.1 < 115 := by decide +kernel
theorem Shp.sA (hs : Shp x h) {a k : Nat} {v : Option Nat} (ha : (∀ p ∈ shAl, ¬ (x + p.1 = a ∧ p.2.1 = k))) : Shp x (sA h a k v) := by
  refine ⟨hs.1, fun p hp => ?_⟩
  show up2 (xA h) a k v (x + p.1) p.2.1 = _
  rw [u2_n _ _ (by have := ha p hp; omega)]
  exact hs.2 p hp
theorem Shp.nw (hs : Shp x h) {t k : Nat} (hN : x + 115 ≤ xN h) : Shp x (xNew h t k) := by
  refine ⟨fun j hj => ?_, fun p hp => ?_⟩
  · show (if x + j = xN h then (t, k) else xT h (x + j)) = _
    rw [if_neg (by omega)]
    exact hs.1 j hj
  · have := sh_lt p hp
    show row0 (xA h) (xN h) none (x + p.1) p.2.1 = _
    unfold row0
    rw [if_neg (by omega)]
    exact hs.2 p hp
theorem ltg_ok : ∀ c, c < 7 → (ltg c).1 ∈ okT := by decide +kernel
end DY
