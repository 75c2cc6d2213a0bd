/-! the plain side: the fixed cells of class and reference as functions, the rest of the heap beside them -/
def iN (n : Nat) : Int32 := Int32.ofNat n
def bI (b : Bool) : Int32 := if b = true then 1 else 0
theorem toInt_iN {n : Nat} (h : n < 2147483648) : (iN n).toInt = (n : Int) := by
  exact nI_toInt (n := n) (by omega)
theorem iN_nat {n : Nat} (h : n < 2147483648) : (iN n).toNatClampNeg = n := by
  have := toInt_iN h
  unfold Int32.toNatClampNeg
  rw [this]
  rfl
theorem iN_lt {i j : Nat} (hi : i < 2147483648) (hj : j < 2147483648) : (iN i < iN j) = (i < j) := by
  rw [Int32.lt_iff_toInt_lt, toInt_iN hi, toInt_iN hj]
  exact propext ⟨fun h => by omega, fun h => by omega⟩
theorem iN_le {i j : Nat} (hi : i < 2147483648) (hj : j < 2147483648) : (iN i ≤ iN j) = (i ≤ j) := by
  rw [Int32.le_iff_toInt_le, toInt_iN hi, toInt_iN hj]
  exact propext ⟨fun h => by omega, fun h => by omega⟩
theorem iN_eq {i j : Nat} (hi : i < 2147483648) (hj : j < 2147483648) : (iN i = iN j) = (i = j) := by
  rw [← Int32.toInt_inj, toInt_iN hi, toInt_iN hj]
  exact propext ⟨fun h => by omega, fun h => by omega⟩
theorem lit_iN (k : Nat) : (no_index (OfNat.ofNat k) : Int32) = iN k := rfl
theorem iN_lt_l {i k : Nat} (hi : i < 2147483648) (hk : k < 2147483648) : (iN i < (no_index (OfNat.ofNat k) : Int32)) = (i < k) := by rw [lit_iN, iN_lt hi hk]
theorem iN_le_l {i k : Nat} (hi : i < 2147483648) (hk : k < 2147483648) : (iN i ≤ (no_index (OfNat.ofNat k) : Int32)) = (i ≤ k) := by rw [lit_iN, iN_le hi hk]
theorem iN_eq_l {i k : Nat} (hi : i < 2147483648) (hk : k < 2147483648) : (iN i = (no_index (OfNat.ofNat k) : Int32)) = (i = k) := by rw [lit_iN, iN_eq hi hk]
theorem l_lt_iN {i k : Nat} (hi : i < 2147483648) (hk : k < 2147483648) : ((no_index (OfNat.ofNat k) : Int32) < iN i) = (k < i) := by rw [lit_iN, iN_lt hk hi]
theorem l_le_iN {i k : Nat} (hi : i < 2147483648) (hk : k < 2147483648) : ((no_index (OfNat.ofNat k) : Int32) ≤ iN i) = (k ≤ i) := by rw [lit_iN, iN_le hk hi]
theorem l_eq_iN {i k : Nat} (hi : i < 2147483648) (hk : k < 2147483648) : ((no_index (OfNat.ofNat k) : Int32) = iN i) = (k = i) := by rw [lit_iN, iN_eq hk hi]
theorem toInt_neg_l {k : Nat} (hk : k < 2147483648) : (-(no_index (OfNat.ofNat k) : Int32)).toInt = -(k : Int) := by
  rw [Int32.toInt_neg, lit_iN, toInt_iN hk]
  exact Int.bmod_eq_of_le (by omega) (by omega)
theorem iN_eq_n {i k : Nat} (hi : i < 2147483648) (hk : 0 < k ∧ k < 2147483648) : (iN i = -(no_index (OfNat.ofNat k) : Int32)) = False := by
  rw [← Int32.toInt_inj, toInt_iN hi, toInt_neg_l hk.2]
  exact propext ⟨fun h => by omega, fun h => h.elim⟩
theorem n_eq_iN {i k : Nat} (hi : i < 2147483648) (hk : 0 < k ∧ k < 2147483648) : (-(no_index (OfNat.ofNat k) : Int32) = iN i) = False := by
  rw [← Int32.toInt_inj, toInt_iN hi, toInt_neg_l hk.2]
  exact propext ⟨fun h => by omega, fun h => h.elim⟩
theorem iN_le_n {i k : Nat} (hi : i < 2147483648) (hk : 0 < k ∧ k < 2147483648) : (iN i ≤ -(no_index (OfNat.ofNat k) : Int32)) = False := by
  rw [Int32.le_iff_toInt_le, toInt_iN hi, toInt_neg_l hk.2]
  exact propext ⟨fun h => by omega, fun h => h.elim⟩
theorem iN_lt_n {i k : Nat} (hi : i < 2147483648) (hk : 0 < k ∧ k < 2147483648) : (iN i < -(no_index (OfNat.ofNat k) : Int32)) = False := by
  rw [Int32.lt_iff_toInt_lt, toInt_iN hi, toInt_neg_l hk.2]
  exact propext ⟨fun h => by omega, fun h => h.elim⟩
theorem n_le_iN {i k : Nat} (hi : i < 2147483648) (hk : 0 < k ∧ k < 2147483648) : (-(no_index (OfNat.ofNat k) : Int32) ≤ iN i) = True := by
  rw [Int32.le_iff_toInt_le, toInt_iN hi, toInt_neg_l hk.2]
  exact propext ⟨fun h => trivial, fun h => by omega⟩
theorem iN_add (i j : Nat) : iN i + iN j = iN (i + j) := by unfold iN; rw [Int32.ofNat_add]
theorem iN_mul (i j : Nat) : iN i * iN j = iN (i * j) := by unfold iN; rw [Int32.ofNat_mul]
theorem iN_add_l (i k : Nat) : iN i + (no_index (OfNat.ofNat k) : Int32) = iN (i + k) := by rw [lit_iN, iN_add]
theorem l_add_iN (i k : Nat) : (no_index (OfNat.ofNat k) : Int32) + iN i = iN (k + i) := by rw [lit_iN, iN_add]
theorem l_mul_iN (i k : Nat) : (no_index (OfNat.ofNat k) : Int32) * iN i = iN (k * i) := by rw [lit_iN, iN_mul]
theorem iN_sub {i j : Nat} (h : j ≤ i) : iN i - iN j = iN (i - j) := by
  have : iN i = iN (i - j) + iN j := by rw [iN_add, Nat.sub_add_cancel h]
  rw [this, Int32.add_sub_cancel]
theorem iN_sub_l {i k : Nat} (h : k ≤ i) : iN i - (no_index (OfNat.ofNat k) : Int32) = iN (i - k) := by rw [lit_iN, iN_sub h]
theorem sub1_le {b : Int32} {n : Nat} (h : n < 2147483648) : (b ≤ iN n - 1) = (b < iN n) := by
  have e : (iN n - 1).toInt = (n : Int) - 1 := by
    rw [Int32.toInt_sub, toInt_iN h, show (1 : Int32).toInt = 1 from rfl]
    exact Int.bmod_eq_of_le (by omega) (by omega)
  rw [Int32.le_iff_toInt_le, Int32.lt_iff_toInt_lt, e, toInt_iN h]
  exact propext ⟨fun h => by omega, fun h => by omega⟩
theorem nat_iN {b : Int32} (h : 0 ≤ b) : b = iN b.toNatClampNeg := by
  have h0 : (0 : Int) ≤ b.toInt := Int32.le_iff_toInt_le.mp h
  have h1 := Int32.toInt_lt b
  rw [← Int32.toInt_inj, toInt_iN (by unfold Int32.toNatClampNeg; omega)]
  unfold Int32.toNatClampNeg
  omega
/-- an int is a number below n, or it is not among them -/
theorem rng (b : Int32) {n : Nat} (hn : n < 2147483648) : (∃ j, j < n ∧ b = iN j) ∨ (0 ≤ b && b < iN n) = false := by
  by_cases h : 0 ≤ b ∧ b < iN n
  · left
    have e := nat_iN h.1
    refine ⟨_, ?_, e⟩
    have h2 := h.2
    have h1 := Int32.toInt_lt b
    have h0 : (0 : Int) ≤ b.toInt := Int32.le_iff_toInt_le.mp h.1
    rw [e, iN_lt (by unfold Int32.toNatClampNeg; omega) hn] at h2
    exact h2
  · right
    simpa using h
theorem le_F {n j : Nat} (h : j < n) : (n ≤ j) = False := by simp; omega
theorem le_T {n j : Nat} (h : n ≤ j) : (n ≤ j) = True := by simp [h]
theorem lt_F {n j : Nat} (h : n ≤ j) : (j < n) = False := by simp; omega
theorem lt_T {n j : Nat} (h : j < n) : (j < n) = True := by simp [h]
theorem eq_F {n j : Nat} (h : j ≠ n) : (j = n) = False := by simp [h]
theorem bI_z (b : Bool) : decide (¬ bI b = 0) = b := by cases b <;> rfl
theorem bI_01 (b : Bool) : (bI b = 0 ∨ bI b = 1) = True := by cases b <;> simp [bI]
theorem bI_if (b : Bool) {α : Type} (x y : α) : (if b = true then x else y) = (if b = true then x else y) := rfl
theorem if_bI (b : Bool) : (if b = true then (1 : Int32) else 0) = bI b := rfl
theorem cat_i (x : Int32) : ((Value.int x).category = 2) = False := by simp [Value.category]
theorem cat_r (x : Nat) : ((Value.ref x).category = 2) = False := by simp [Value.category]
theorem cat_0 : (Value.null.category = 2) = False := by simp [Value.category]
theorem cat_d : ((Value.retAddr 0).category = 2) = False := by simp [Value.category]
theorem cat_l (x : Int64) : ((Value.long x).category = 2) = True := by simp [Value.category]
def mR {ρ : Type} (r : SR ρ) : Option (ρ × XH) := match r with
  | .inr q => some q
  | .inl _ => none
theorem mB_ok {ρ : Type} {n9 : Nat} {pads L : List Value} {s : SS ρ} {as : List Value} {h : XH} (h1 : (lay as).length + pads.length = n9) (h2 : lay as ++ pads = L) : mB n9 pads s as h = (s L h).bind mR := by
  unfold mB
  rw [if_pos h1, h2]
  rfl
theorem mR_r {ρ : Type} (q : ρ × XH) : mR (.inr q : SR ρ) = some q := rfl
theorem sLoop_s {ρ : Type} (c : EE Bool) (b : SS ρ) (n : Nat) (L : List Value) (h : XH) : sLoop c b (n + 1) L h = (c L h).bind fun r => if r.1 = true then (b L r.2).bind fun q => (match q with
    | .inl q => sLoop c b n q.1 q.2
    | .inr q => some (.inr q)) else some (.inl (L, r.2)) := rfl
theorem gI_i (x : Int32) : gI (some (.int x)) = some x := rfl
theorem gJ_l (x : Int64) : gJ (some (.long x)) = some x := rfl
theorem gR_r (a : Nat) : gR (some (.ref a)) = some (some a) := rfl
theorem gR_0 : gR (some .null) = some none := rfl
theorem rf_s (a : Nat) : va_rf (some a) = .ref a := rfl
theorem rf_n : va_rf none = .null := rfl
/-- a loop whose state at its i-th turn is known -/
theorem loop_up {ρ : Type} {c : EE Bool} {b : SS ρ} (I : Nat → List Value × XH) (n : Nat) (hc : ∀ i, i ≤ n → c (I i).1 (I i).2 = some (decide (i < n), (I i).2)) (hb : ∀ i, i < n → b (I i).1 (I i).2 = some (.inl (I (i + 1)))) {N : Nat} (hN : n < N) {L : List Value} {h : XH} (h0 : I 0 = (L, h)) : sLoop c b N L h = some (.inl (I n)) := by
  have key : ∀ k i M, i + k = n → k < M → sLoop c b M (I i).1 (I i).2 = some (.inl (I n)) := by
    intro k
    induction k with
    | zero =>
      intro i M hi hM
      obtain ⟨M, rfl⟩ : ∃ q, M = q + 1 := ⟨M - 1, by omega⟩
      have : i = n := by omega
      subst this
      rw [sLoop_s, hc i (Nat.le_refl _)]
      simp
    | succ k ih =>
      intro i M hi hM
      obtain ⟨M, rfl⟩ : ∃ q, M = q + 1 := ⟨M - 1, by omega⟩
      rw [sLoop_s, hc i (by omega)]
      simp only [Option.bind_some, show decide (i < n) = true from by simp; omega, if_true]
      rw [hb i (by omega)]
      simp only [Option.bind_some]
      exact ih (i + 1) M (by omega) (by omega)
  have := key n 0 N (by omega) hN
  rwa [h0] at this
/-- a loop that returns at its n-th turn -/
theorem loop_ret {ρ : Type} {c : EE Bool} {b : SS ρ} (I : Nat → List Value × XH) (n : Nat) (r : ρ × XH) (hc : ∀ i, i ≤ n → c (I i).1 (I i).2 = some (true, (I i).2)) (hb : ∀ i, i < n → b (I i).1 (I i).2 = some (.inl (I (i + 1)))) (he : b (I n).1 (I n).2 = some (.inr r)) {N : Nat} (hN : n < N) {L : List Value} {h : XH} (h0 : I 0 = (L, h)) : sLoop c b N L h = some (.inr r) := by
  have key : ∀ k i M, i + k = n → k < M → sLoop c b M (I i).1 (I i).2 = some (.inr r) := by
    intro k
    induction k with
    | zero =>
      intro i M hi hM
      obtain ⟨M, rfl⟩ : ∃ q, M = q + 1 := ⟨M - 1, by omega⟩
      have : i = n := by omega
      subst this
      rw [sLoop_s, hc i (Nat.le_refl _)]
      simp only [Option.bind_some, if_true]
      rw [he]
      rfl
    | succ k ih =>
      intro i M hi hM
      obtain ⟨M, rfl⟩ : ∃ q, M = q + 1 := ⟨M - 1, by omega⟩
      rw [sLoop_s, hc i (by omega)]
      simp only [Option.bind_some, if_true]
      rw [hb i (by omega)]
      simp only [Option.bind_some]
      exact ih (i + 1) M (by omega) (by omega)
  have := key n 0 N (by omega) hN
  rwa [h0] at this
theorem u2_s {α : Type} (f : Nat → Nat → α) (a k : Nat) (x : α) : up2 f a k x a k = x := by simp [up2]
theorem u2_n {α : Type} (f : Nat → Nat → α) {a k b j : Nat} (x : α) (h : b ≠ a ∨ j ≠ k) : up2 f a k x b j = f b j := by
  unfold up2
  rw [if_neg (by omega)]
/-! fixed cells: class at x + j (j < 65), reference at x + 65 + j (j < 50) -/
def hh (x : Nat) (h : XH) (C M : Nat → Nat → Int32) (P Q : Nat → Nat → Int64) : XH :=
  (fun a i => if x ≤ a ∧ a < x + 65 then C (a - x) i else if x + 65 ≤ a ∧ a < x + 115 then M (a - x - 65) i else xI h a i,
   fun a i => if x ≤ a ∧ a < x + 65 then P (a - x) i else if x + 65 ≤ a ∧ a < x + 115 then Q (a - x - 65) i else xJ h a i,
   xA h, xT h, xN h, xS h)
section HH
variable {x : Nat} {h : XH} {C M : Nat → Nat → Int32} {P Q : Nat → Nat → Int64}
theorem xA_hh : xA (hh x h C M P Q) = xA h := rfl
theorem xT_hh : xT (hh x h C M P Q) = xT h := rfl
theorem xN_hh : xN (hh x h C M P Q) = xN h := rfl
theorem xS_hh : xS (hh x h C M P Q) = xS h := rfl
theorem xI_0 {i : Nat} : xI (hh x h C M P Q) x i = C 0 i := by simp [xI, hh]
theorem xI_c {j i : Nat} (hj : j < 65) : xI (hh x h C M P Q) (x + j) i = C j i := by simp [xI, hh, hj]
theorem xI_m {j i : Nat} (hj : 65 ≤ j ∧ j < 115) : xI (hh x h C M P Q) (x + j) i = M (j - 65) i := by
  have e : x + j - x - 65 = j - 65 := by omega
  simp only [xI, hh]
  rw [if_neg (by omega), if_pos (by omega), e]
theorem xI_o {a i : Nat} (ha : x + 115 ≤ a) : xI (hh x h C M P Q) a i = xI h a i := by
  simp only [xI, hh]
  rw [if_neg (by omega), if_neg (by omega)]
theorem xJ_0 {i : Nat} : xJ (hh x h C M P Q) x i = P 0 i := by simp [xJ, hh]
theorem xJ_m {j i : Nat} (hj : 65 ≤ j ∧ j < 115) : xJ (hh x h C M P Q) (x + j) i = Q (j - 65) i := by
  have e : x + j - x - 65 = j - 65 := by omega
  simp only [xJ, hh]
  rw [if_neg (by omega), if_pos (by omega), e]
theorem hh_ext {h' : XH} {C' M' : Nat → Nat → Int32} {P' Q' : Nat → Nat → Int64} (g : XH) (e1 : ∀ a i, xI g a i = xI (hh x h' C' M' P' Q') a i) (e2 : ∀ a i, xJ g a i = xJ (hh x h' C' M' P' Q') a i) (e3 : xA g = xA h') (e4 : xT g = xT h') (e5 : xN g = xN h') (e6 : xS g = xS h') : g = hh x h' C' M' P' Q' := by
  obtain ⟨g1, g2, g3, g4, g5, g6⟩ := g
  have a1 : g1 = xI (hh x h' C' M' P' Q') := funext fun a => funext fun i => e1 a i
  have a2 : g2 = xJ (hh x h' C' M' P' Q') := funext fun a => funext fun i => e2 a i
  simp only [xA, xT, xN, xS] at e3 e4 e5 e6
  rw [a1, a2, e3, e4, e5, e6]
  rfl
theorem sI_0 {k : Nat} {v : Int32} : sI (hh x h C M P Q) x k v = hh x h (up2 C 0 k v) M P Q := by
  refine hh_ext _ (fun a i => ?_) (fun a i => rfl) rfl rfl rfl rfl
  simp only [sI, xI, hh, up2]
  by_cases h1 : x ≤ a ∧ a < x + 65
  · simp only [h1, if_true, and_self]
    by_cases h2 : a = x
    · subst h2; simp
    · rw [if_neg (by omega), if_neg (by omega)]
  · simp only [h1, if_false]
    rw [if_neg (by omega)]
theorem sI_c {j k : Nat} {v : Int32} (hj : j < 65) : sI (hh x h C M P Q) (x + j) k v = hh x h (up2 C j k v) M P Q := by
  refine hh_ext _ (fun a i => ?_) (fun a i => rfl) rfl rfl rfl rfl
  simp only [sI, xI, hh, up2]
  by_cases h1 : x ≤ a ∧ a < x + 65
  · simp only [h1, if_true, and_self]
    by_cases h2 : a = x + j
    · subst h2; simp
    · rw [if_neg (by omega), if_neg (by omega)]
  · simp only [h1, if_false]
    rw [if_neg (by omega)]
theorem sI_m {j k : Nat} {v : Int32} (hj : 65 ≤ j ∧ j < 115) : sI (hh x h C M P Q) (x + j) k v = hh x h C (up2 M (j - 65) k v) P Q := by
  refine hh_ext _ (fun a i => ?_) (fun a i => rfl) rfl rfl rfl rfl
  simp only [sI, xI, hh, up2]
  by_cases h1 : x ≤ a ∧ a < x + 65
  · simp only [h1, if_true, and_self]
    rw [if_neg (by omega)]
  · simp only [h1, if_false]
    by_cases h2 : x + 65 ≤ a ∧ a < x + 115
    · simp only [h2, if_true, and_self]
      by_cases h3 : a = x + j
      · subst h3
        rw [show x + j - x - 65 = j - 65 by omega]
        simp
      · rw [if_neg (by omega), if_neg (by omega)]
    · simp only [h2, if_false]
      rw [if_neg (by omega)]
theorem sI_o {a k : Nat} {v : Int32} (ha : x + 115 ≤ a) : sI (hh x h C M P Q) a k v = hh x (sI h a k v) C M P Q := by
  refine hh_ext _ (fun b i => ?_) (fun a i => rfl) rfl rfl rfl rfl
  simp only [sI, xI, hh, up2]
  by_cases h1 : x ≤ b ∧ b < x + 65
  · simp only [h1, if_true, and_self]
    rw [if_neg (by omega)]
  · simp only [h1, if_false]
    by_cases h2 : x + 65 ≤ b ∧ b < x + 115
    · simp only [h2, if_true, and_self]
      rw [if_neg (by omega)]
    · simp only [h2, if_false]
theorem sJ_0 {k : Nat} {v : Int64} : sJ (hh x h C M P Q) x k v = hh x h C M (up2 P 0 k v) Q := by
  refine hh_ext _ (fun a i => rfl) (fun a i => ?_) rfl rfl rfl rfl
  simp only [sJ, xJ, hh, up2]
  by_cases h1 : x ≤ a ∧ a < x + 65
  · simp only [h1, if_true, and_self]
    by_cases h2 : a = x
    · subst h2; simp
    · rw [if_neg (by omega), if_neg (by omega)]
  · simp only [h1, if_false]
    rw [if_neg (by omega)]
theorem sJ_m {j k : Nat} {v : Int64} (hj : 65 ≤ j ∧ j < 115) : sJ (hh x h C M P Q) (x + j) k v = hh x h C M P (up2 Q (j - 65) k v) := by
  refine hh_ext _ (fun a i => rfl) (fun a i => ?_) rfl rfl rfl rfl
  simp only [sJ, xJ, hh, up2]
  by_cases h1 : x ≤ a ∧ a < x + 65
  · simp only [h1, if_true, and_self]
    rw [if_neg (by omega)]
  · simp only [h1, if_false]
    by_cases h2 : x + 65 ≤ a ∧ a < x + 115
    · simp only [h2, if_true, and_self]
      by_cases h3 : a = x + j
      · subst h3
        rw [show x + j - x - 65 = j - 65 by omega]
        simp
      · rw [if_neg (by omega), if_neg (by omega)]
    · simp only [h2, if_false]
      rw [if_neg (by omega)]
theorem sA_hh {a k : Nat} {v : Option Nat} : sA (hh x h C M P Q) a k v = hh x (sA h a k v) C M P Q := rfl
theorem xNew_hh {t n : Nat} (hN : x + 115 ≤ xN h) : xNew (hh x h C M P Q) t n = hh x (xNew h t n) C M P Q := by
  refine hh_ext _ (fun b i => ?_) (fun b i => ?_) rfl rfl rfl rfl
  · simp only [xNew, xI, hh, row0, xN_hh]
    simp only [xN] at hN ⊢
    by_cases h1 : x ≤ b ∧ b < x + 65
    · simp only [h1, if_true, and_self]
      rw [if_neg (by omega)]
    · simp only [h1, if_false]
      by_cases h2 : x + 65 ≤ b ∧ b < x + 115
      · simp only [h2, if_true, and_self]
        rw [if_neg (by omega)]
      · simp only [h2, if_false]
        rfl
  · simp only [xNew, xJ, hh, row0, xN_hh]
    simp only [xN] at hN ⊢
    by_cases h1 : x ≤ b ∧ b < x + 65
    · simp only [h1, if_true, and_self]
      rw [if_neg (by omega)]
    · simp only [h1, if_false]
      by_cases h2 : x + 65 ≤ b ∧ b < x + 115
      · simp only [h2, if_true, and_self]
        rw [if_neg (by omega)]
      · simp only [h2, if_false]
        rfl
theorem xCpI_c {a b sp dp n : Nat} (ha : a < 65) (hb : b < 65) : xCpI (hh x h C M P Q) (x + a) sp (x + b) dp n = hh x h (cp2 C a sp b dp n) M P Q := by
  refine hh_ext _ (fun q i => ?_) (fun a i => rfl) rfl rfl rfl rfl
  simp only [xCpI, xI, hh, cp2]
  by_cases h1 : x ≤ q ∧ q < x + 65
  · simp only [h1, if_true, and_self]
    by_cases h2 : q = x + b
    · subst h2
      simp [ha]
    · rw [if_neg (by omega), if_neg (by omega)]
  · simp only [h1, if_false]
    rw [if_neg (by omega)]
end HH
theorem mB_s {ρ : Type} (n9 : Nat) (pads : List Value) (s : SS ρ) (as : List Value) (h : XH) : mB n9 pads s as h = if (lay as).length + pads.length = n9 then (s (lay as ++ pads) h).bind mR else none := rfl
theorem lay_n : lay [] = [] := rfl
theorem lay_i (x : Int32) (t : List Value) : lay (.int x :: t) = .int x :: lay t := rfl
theorem lay_r (a : Nat) (t : List Value) : lay (.ref a :: t) = .ref a :: lay t := rfl
theorem lay_0 (t : List Value) : lay (.null :: t) = .null :: lay t := rfl
theorem lay_l (x : Int64) (t : List Value) : lay (.long x :: t) = .long x :: xD :: lay t := rfl
theorem ifs {α β : Type} {p : Prop} [Decidable p] (a b : α) (h : β) : (if p then some (a, h) else some (b, h)) = some (if p then a else b, h) := by split <;> rfl
theorem if_and {p : Prop} [Decidable p] (q : Bool) : (if p then q else false) = (decide p && q) := by by_cases hp : p <;> simp [hp]
theorem if_or {p : Prop} [Decidable p] (q : Bool) : (if p then true else q) = (decide p || q) := by by_cases hp : p <;> simp [hp]
theorem if_10 {p : Prop} [Decidable p] : (if p then (1 : Int32) else 0) = bI (decide p) := by by_cases hp : p <;> simp [hp, bI]
theorem bI_zn (b : Bool) : (¬ bI b = 0) = (b = true) := by cases b <;> simp [bI]
def itr {α : Type} (f : Nat → α → α) (a : α) : Nat → α
  | 0 => a
  | n + 1 => f n (itr f a n)
theorem ifl {α β γ : Type} {p : Prop} [Decidable p] (a b : α) (h : β) : (if p then some (Sum.inl (a, h) : (α × β) ⊕ γ) else some (Sum.inl (b, h))) = some (Sum.inl (if p then a else b, h)) := by split <;> rfl
theorem ifcons {α : Type} {p : Prop} [Decidable p] (a b : α) (k l : List α) : (if p then a :: k else b :: l) = (if p then a else b) :: (if p then k else l) := by split <;> rfl
theorem ifint {p : Prop} [Decidable p] (a b : Int32) : (if p then Value.int a else Value.int b) = Value.int (if p then a else b) := by split <;> rfl
theorem iflong {p : Prop} [Decidable p] (a b : Int64) : (if p then Value.long a else Value.long b) = Value.long (if p then a else b) := by split <;> rfl
theorem if_inc {p : Prop} [Decidable p] (a : Int32) : (if p then a + 1 else a) = a + bI (decide p) := by by_cases hp : p <;> simp [hp, bI]
def oI (o : Option Nat) : Int32 := match o with
  | none => -9
  | some k => iN k
