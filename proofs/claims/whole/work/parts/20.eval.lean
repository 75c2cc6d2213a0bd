/-! the plain side: the fixed cells of class and reference as functions, the rest of the heap beside them -/
def iN (n : Nat) : Int32 := Int32.ofNat n
def bI (b : Bool) : Int32 := if b = true then 1 else 0
theorem toInt_iN {n : Nat} (h : n < 2147483648) : (iN n).toInt = (n : Int) := by
  exact nI_toInt (n := n) (by omega)
theorem iN_nat {n : Nat} (h : n < 2147483648) : (iN n).toNatClampNeg = n := by
  have := toInt_iN h
  unfold Int32.toNatClampNeg
  rw [this]
  rfl
theorem iN_lt {i j : Nat} (hi : i < 2147483648) (hj : j < 2147483648) : (iN i < iN j) = (i < j) := by
  rw [Int32.lt_iff_toInt_lt, toInt_iN hi, toInt_iN hj]
  exact propext ⟨fun h => by omega, fun h => by omega⟩
theorem iN_le {i j : Nat} (hi : i < 2147483648) (hj : j < 2147483648) : (iN i ≤ iN j) = (i ≤ j) := by
  rw [Int32.le_iff_toInt_le, toInt_iN hi, toInt_iN hj]
  exact propext ⟨fun h => by omega, fun h => by omega⟩
theorem iN_eq {i j : Nat} (hi : i < 2147483648) (hj : j < 2147483648) : (iN i = iN j) = (i = j) := by
  rw [← Int32.toInt_inj, toInt_iN hi, toInt_iN hj]
  exact propext ⟨fun h => by omega, fun h => by omega⟩
theorem lit_iN (k : Nat) : (no_index (OfNat.ofNat k) : Int32) = iN k := rfl
theorem iN_lt_l {i k : Nat} (hi : i < 2147483648) (hk : k < 2147483648) : (iN i < (no_index (OfNat.ofNat k) : Int32)) = (i < k) := by rw [lit_iN, iN_lt hi hk]
theorem iN_le_l {i k : Nat} (hi : i < 2147483648) (hk : k < 2147483648) : (iN i ≤ (no_index (OfNat.ofNat k) : Int32)) = (i ≤ k) := by rw [lit_iN, iN_le hi hk]
theorem iN_eq_l {i k : Nat} (hi : i < 2147483648) (hk : k < 2147483648) : (iN i = (no_index (OfNat.ofNat k) : Int32)) = (i = k) := by rw [lit_iN, iN_eq hi hk]
theorem l_lt_iN {i k : Nat} (hi : i < 2147483648) (hk : k < 2147483648) : ((no_index (OfNat.ofNat k) : Int32) < iN i) = (k < i) := by rw [lit_iN, iN_lt hk hi]
theorem l_le_iN {i k : Nat} (hi : i < 2147483648) (hk : k < 2147483648) : ((no_index (OfNat.ofNat k) : Int32) ≤ iN i) = (k ≤ i) := by rw [lit_iN, iN_le hk hi]
theorem l_eq_iN {i k : Nat} (hi : i < 2147483648) (hk : k < 2147483648) : ((no_index (OfNat.ofNat k) : Int32) = iN i) = (k = i) := by rw [lit_iN, iN_eq hk hi]
theorem l_nat {k : Nat} (hk : k < 2147483648) : (no_index (OfNat.ofNat k) : Int32).toNatClampNeg = k := by rw [lit_iN, iN_nat hk]
theorem l_lt_T {a b : Nat} (h : a < b) (hb : b < 2147483648) : ((no_index (OfNat.ofNat a) : Int32) < (no_index (OfNat.ofNat b) : Int32)) = True := by rw [lit_iN, lit_iN, iN_lt (by omega) hb]; exact eq_true h
theorem l_lt_F {a b : Nat} (h : b ≤ a) (hb : a < 2147483648) : ((no_index (OfNat.ofNat a) : Int32) < (no_index (OfNat.ofNat b) : Int32)) = False := by rw [lit_iN, lit_iN, iN_lt hb (by omega)]; exact eq_false (by omega)
theorem l_le_T {a b : Nat} (h : a ≤ b) (hb : b < 2147483648) : ((no_index (OfNat.ofNat a) : Int32) ≤ (no_index (OfNat.ofNat b) : Int32)) = True := by rw [lit_iN, lit_iN, iN_le (by omega) hb]; exact eq_true h
theorem l_le_F {a b : Nat} (h : b < a) (hb : a < 2147483648) : ((no_index (OfNat.ofNat a) : Int32) ≤ (no_index (OfNat.ofNat b) : Int32)) = False := by rw [lit_iN, lit_iN, iN_le hb (by omega)]; exact eq_false (by omega)
theorem l_eq_F {a b : Nat} (h : a ≠ b) (ha : a < 2147483648) (hb : b < 2147483648) : ((no_index (OfNat.ofNat a) : Int32) = (no_index (OfNat.ofNat b) : Int32)) = False := by rw [lit_iN, lit_iN, iN_eq ha hb]; exact eq_false h
theorem toInt_neg_l {k : Nat} (hk : k < 2147483648) : (-(no_index (OfNat.ofNat k) : Int32)).toInt = -(k : Int) := by
  rw [Int32.toInt_neg, lit_iN, toInt_iN hk]
  exact Int.bmod_eq_of_le (by omega) (by omega)
theorem iN_eq_n {i k : Nat} (hi : i < 2147483648) (hk : 0 < k ∧ k < 2147483648) : (iN i = -(no_index (OfNat.ofNat k) : Int32)) = False := by
  rw [← Int32.toInt_inj, toInt_iN hi, toInt_neg_l hk.2]
  exact propext ⟨fun h => by omega, fun h => h.elim⟩
theorem n_eq_iN {i k : Nat} (hi : i < 2147483648) (hk : 0 < k ∧ k < 2147483648) : (-(no_index (OfNat.ofNat k) : Int32) = iN i) = False := by
  rw [← Int32.toInt_inj, toInt_iN hi, toInt_neg_l hk.2]
  exact propext ⟨fun h => by omega, fun h => h.elim⟩
theorem iN_le_n {i k : Nat} (hi : i < 2147483648) (hk : 0 < k ∧ k < 2147483648) : (iN i ≤ -(no_index (OfNat.ofNat k) : Int32)) = False := by
  rw [Int32.le_iff_toInt_le, toInt_iN hi, toInt_neg_l hk.2]
  exact propext ⟨fun h => by omega, fun h => h.elim⟩
theorem iN_lt_n {i k : Nat} (hi : i < 2147483648) (hk : 0 < k ∧ k < 2147483648) : (iN i < -(no_index (OfNat.ofNat k) : Int32)) = False := by
  rw [Int32.lt_iff_toInt_lt, toInt_iN hi, toInt_neg_l hk.2]
  exact propext ⟨fun h => by omega, fun h => h.elim⟩
theorem n_le_iN {i k : Nat} (hi : i < 2147483648) (hk : 0 < k ∧ k < 2147483648) : (-(no_index (OfNat.ofNat k) : Int32) ≤ iN i) = True := by
  rw [Int32.le_iff_toInt_le, toInt_iN hi, toInt_neg_l hk.2]
  exact propext ⟨fun h => trivial, fun h => by omega⟩
theorem iN_add (i j : Nat) : iN i + iN j = iN (i + j) := by unfold iN; rw [Int32.ofNat_add]
theorem iN_mul (i j : Nat) : iN i * iN j = iN (i * j) := by unfold iN; rw [Int32.ofNat_mul]
theorem iN_add_l (i k : Nat) : iN i + (no_index (OfNat.ofNat k) : Int32) = iN (i + k) := by rw [lit_iN, iN_add]
theorem l_add_iN (i k : Nat) : (no_index (OfNat.ofNat k) : Int32) + iN i = iN (k + i) := by rw [lit_iN, iN_add]
theorem l_mul_iN (i k : Nat) : (no_index (OfNat.ofNat k) : Int32) * iN i = iN (k * i) := by rw [lit_iN, iN_mul]
theorem iN_sub {i j : Nat} (h : j ≤ i) : iN i - iN j = iN (i - j) := by
  have : iN i = iN (i - j) + iN j := by rw [iN_add, Nat.sub_add_cancel h]
  rw [this, Int32.add_sub_cancel]
theorem iN_sub_l {i k : Nat} (h : k ≤ i) : iN i - (no_index (OfNat.ofNat k) : Int32) = iN (i - k) := by rw [lit_iN, iN_sub h]
theorem sub1_le {b : Int32} {n : Nat} (h : n < 2147483648) : (b ≤ iN n - 1) = (b < iN n) := by
  have e : (iN n - 1).toInt = (n : Int) - 1 := by
    rw [Int32.toInt_sub, toInt_iN h, show (1 : Int32).toInt = 1 from rfl]
    exact Int.bmod_eq_of_le (by omega) (by omega)
  rw [Int32.le_iff_toInt_le, Int32.lt_iff_toInt_lt, e, toInt_iN h]
  exact propext ⟨fun h => by omega, fun h => by omega⟩
theorem nat_iN {b : Int32} (h : 0 ≤ b) : b = iN b.toNatClampNeg := by
  have h0 : (0 : Int) ≤ b.toInt := Int32.le_iff_toInt_le.mp h
  have h1 := Int32.toInt_lt b
  rw [← Int32.toInt_inj, toInt_iN (by unfold Int32.toNatClampNeg; omega)]
  unfold Int32.toNatClampNeg
  omega
/-- an int is a number below n, or it is not among them -/
theorem rng (b : Int32) {n : Nat} (hn : n < 2147483648) : (∃ j, j < n ∧ b = iN j) ∨ (0 ≤ b && b < iN n) = false := by
  by_cases h : 0 ≤ b ∧ b < iN n
  · left
    have e := nat_iN h.1
    refine ⟨_, ?_, e⟩
    have h2 := h.2
    have h1 := Int32.toInt_lt b
    have h0 : (0 : Int) ≤ b.toInt := Int32.le_iff_toInt_le.mp h.1
    rw [e, iN_lt (by unfold Int32.toNatClampNeg; omega) hn] at h2
    exact h2
  · right
    simpa using h
theorem rng_le {b : Int32} {k : Nat} (hk : k + 1 < 2147483648) (hr : (decide (0 ≤ b) && decide (b < iN (k + 1))) = false) : (decide (0 ≤ b) && decide (b ≤ iN k)) = false := by
  rw [← hr]
  congr 1
  have : (b ≤ iN k) = (b < iN (k + 1)) := by
    rw [Int32.le_iff_toInt_le, Int32.lt_iff_toInt_lt, toInt_iN (by omega), toInt_iN hk]
    exact propext ⟨fun h => by omega, fun h => by omega⟩
  simp only [this]
theorem rng_p {p q : Prop} [Decidable p] [Decidable q] (h : (decide p && decide q) = false) : (p ∧ q) = False := by simpa using h
theorem rng_n {p q : Prop} [Decidable p] [Decidable q] (h : (decide p && decide q) = false) : (p → ¬ q) = True := by simpa using h
theorem le_F {n j : Nat} (h : j < n) : (n ≤ j) = False := by simp; omega
theorem le_T {n j : Nat} (h : n ≤ j) : (n ≤ j) = True := by simp [h]
theorem lt_F {n j : Nat} (h : n ≤ j) : (j < n) = False := by simp; omega
theorem lt_T {n j : Nat} (h : j < n) : (j < n) = True := by simp [h]
theorem eq_F {n j : Nat} (h : j ≠ n) : (j = n) = False := by simp [h]
theorem bI_z (b : Bool) : decide (¬ bI b = 0) = b := by cases b <;> rfl
theorem bI_01 (b : Bool) : (bI b = 0 ∨ bI b = 1) = True := by cases b <;> simp [bI]
theorem bI_if (b : Bool) {α : Type} (x y : α) : (if b = true then x else y) = (if b = true then x else y) := rfl
theorem if_bI (b : Bool) : (if b = true then (1 : Int32) else 0) = bI b := rfl
theorem cat_i (x : Int32) : ((Value.int x).category = 2) = False := by simp [Value.category]
theorem cat_r (x : Nat) : ((Value.ref x).category = 2) = False := by simp [Value.category]
theorem cat_0 : (Value.null.category = 2) = False := by simp [Value.category]
theorem cat_d : ((Value.retAddr 0).category = 2) = False := by simp [Value.category]
theorem cat_l (x : Int64) : ((Value.long x).category = 2) = True := by simp [Value.category]
def mR {ρ : Type} (r : SR ρ) : Option (ρ × XH) := match r with
  | .inr q => some q
  | .inl _ => none
theorem mB_ok {ρ : Type} {n9 : Nat} {pads L : List Value} {s : SS ρ} {as : List Value} {h : XH} (h1 : (lay as).length + pads.length = n9) (h2 : lay as ++ pads = L) : mB n9 pads s as h = (s L h).bind mR := by
  unfold mB
  rw [if_pos h1, h2]
  rfl
theorem mR_r {ρ : Type} (q : ρ × XH) : mR (.inr q : SR ρ) = some q := rfl
theorem sLoop_s {ρ : Type} (c : EE Bool) (b : SS ρ) (n : Nat) (L : List Value) (h : XH) : sLoop c b (n + 1) L h = (c L h).bind fun r => if r.1 = true then (b L r.2).bind fun q => (match q with
    | .inl q => sLoop c b n q.1 q.2
    | .inr q => some (.inr q)) else some (.inl (L, r.2)) := rfl
theorem gI_i (x : Int32) : gI (some (.int x)) = some x := rfl
theorem gJ_l (x : Int64) : gJ (some (.long x)) = some x := rfl
theorem gR_r (a : Nat) : gR (some (.ref a)) = some (some a) := rfl
theorem gR_0 : gR (some .null) = some none := rfl
theorem rf_s (a : Nat) : va_rf (some a) = .ref a := rfl
theorem rf_n : va_rf none = .null := rfl
/-- a loop whose state at its i-th turn is known -/
theorem loop_up {ρ : Type} {c : EE Bool} {b : SS ρ} (I : Nat → List Value × XH) (n : Nat) (hc : ∀ i, i ≤ n → c (I i).1 (I i).2 = some (decide (i < n), (I i).2)) (hb : ∀ i, i < n → b (I i).1 (I i).2 = some (.inl (I (i + 1)))) {N : Nat} (hN : n < N) {L : List Value} {h : XH} (h0 : I 0 = (L, h)) : sLoop c b N L h = some (.inl (I n)) := by
  have key : ∀ k i M, i + k = n → k < M → sLoop c b M (I i).1 (I i).2 = some (.inl (I n)) := by
    intro k
    induction k with
    | zero =>
      intro i M hi hM
      obtain ⟨M, rfl⟩ : ∃ q, M = q + 1 := ⟨M - 1, by omega⟩
      have : i = n := by omega
      subst this
      rw [sLoop_s, hc i (Nat.le_refl _)]
      simp
    | succ k ih =>
      intro i M hi hM
      obtain ⟨M, rfl⟩ : ∃ q, M = q + 1 := ⟨M - 1, by omega⟩
      rw [sLoop_s, hc i (by omega)]
      simp only [Option.bind_some, show decide (i < n) = true from by simp; omega, if_true]
      rw [hb i (by omega)]
      simp only [Option.bind_some]
      exact ih (i + 1) M (by omega) (by omega)
  have := key n 0 N (by omega) hN
  rwa [h0] at this
/-- a loop that returns at its n-th turn -/
theorem loop_ret {ρ : Type} {c : EE Bool} {b : SS ρ} (I : Nat → List Value × XH) (n : Nat) (r : ρ × XH) (hc : ∀ i, i ≤ n → c (I i).1 (I i).2 = some (true, (I i).2)) (hb : ∀ i, i < n → b (I i).1 (I i).2 = some (.inl (I (i + 1)))) (he : b (I n).1 (I n).2 = some (.inr r)) {N : Nat} (hN : n < N) {L : List Value} {h : XH} (h0 : I 0 = (L, h)) : sLoop c b N L h = some (.inr r) := by
  have key : ∀ k i M, i + k = n → k < M → sLoop c b M (I i).1 (I i).2 = some (.inr r) := by
    intro k
    induction k with
    | zero =>
      intro i M hi hM
      obtain ⟨M, rfl⟩ : ∃ q, M = q + 1 := ⟨M - 1, by omega⟩
      have : i = n := by omega
      subst this
      rw [sLoop_s, hc i (Nat.le_refl _)]
      simp only [Option.bind_some, if_true]
      rw [he]
      rfl
    | succ k ih =>
      intro i M hi hM
      obtain ⟨M, rfl⟩ : ∃ q, M = q + 1 := ⟨M - 1, by omega⟩
      rw [sLoop_s, hc i (by omega)]
      simp only [Option.bind_some, if_true]
      rw [hb i (by omega)]
      simp only [Option.bind_some]
      exact ih (i + 1) M (by omega) (by omega)
  have := key n 0 N (by omega) hN
  rwa [h0] at this
theorem u2_s {α : Type} (f : Nat → Nat → α) (a k : Nat) (x : α) : up2 f a k x a k = x := by simp [up2]
theorem u2_n {α : Type} (f : Nat → Nat → α) {a k b j : Nat} (x : α) (h : b ≠ a ∨ j ≠ k) : up2 f a k x b j = f b j := by
  unfold up2
  rw [if_neg (by omega)]
/-! the constructs applied, their continuations by name: nothing is evaluated ahead of its time -/
section KK
variable {ρ α β γ : Type}
def kS (b : SS ρ) : SR ρ → Option (SR ρ) := fun r => match r with
  | .inl q => b q.1 q.2
  | .inr q => some (.inr q)
theorem kS_l (b : SS ρ) (L : List Value) (h : XH) : kS b (.inl (L, h)) = b L h := rfl
theorem kS_r (b : SS ρ) (q : ρ × XH) : kS b (.inr q) = some (.inr q) := rfl
theorem sSeq_a (a b : SS ρ) (L : List Value) (h : XH) : sSeq a b L h = (a L h).bind (kS b) := rfl
theorem sNil_a (L : List Value) (h : XH) : (sNil : SS ρ) L h = some (.inl (L, h)) := rfl
def kSetI (k : Nat) (L : List Value) : Int32 × XH → Option (SR ρ) := fun r => some (.inl (stL L k (.int r.1), r.2))
theorem kSetI_p (k : Nat) (L : List Value) (v : Int32) (h : XH) : (kSetI k L (v, h) : Option (SR ρ)) = some (.inl (stL L k (.int v), h)) := rfl
theorem sSetI_a (k : Nat) (f : EE Int32) (L : List Value) (h : XH) : (sSetI k f : SS ρ) L h = (f L h).bind (kSetI k L) := rfl
def kSetJ (k : Nat) (L : List Value) : Int64 × XH → Option (SR ρ) := fun r => some (.inl (stL2 L k (.long r.1), r.2))
theorem kSetJ_p (k : Nat) (L : List Value) (v : Int64) (h : XH) : (kSetJ k L (v, h) : Option (SR ρ)) = some (.inl (stL2 L k (.long v), h)) := rfl
theorem sSetJ_a (k : Nat) (f : EE Int64) (L : List Value) (h : XH) : (sSetJ k f : SS ρ) L h = (f L h).bind (kSetJ k L) := rfl
def kSetA (k : Nat) (L : List Value) : Option Nat × XH → Option (SR ρ) := fun r => some (.inl (stL L k (va_rf r.1), r.2))
theorem kSetA_p (k : Nat) (L : List Value) (v : Option Nat) (h : XH) : (kSetA k L (v, h) : Option (SR ρ)) = some (.inl (stL L k (va_rf v), h)) := rfl
theorem sSetA_a (k : Nat) (f : EE (Option Nat)) (L : List Value) (h : XH) : (sSetA k f : SS ρ) L h = (f L h).bind (kSetA k L) := rfl
def kInc (k : Nat) (v : Int32) (L : List Value) (h : XH) : Int32 → Option (SR ρ) := fun x => some (.inl (stL L k (.int (x + v)), h))
theorem kInc_p (k : Nat) (v : Int32) (L : List Value) (h : XH) (x : Int32) : (kInc k v L h x : Option (SR ρ)) = some (.inl (stL L k (.int (x + v)), h)) := rfl
theorem sInc_a (k : Nat) (v : Int32) (L : List Value) (h : XH) : (sInc k v : SS ρ) L h = (gI L[k]?).bind (kInc k v L h) := rfl
def kPut2 (set : XH → Nat → Nat → α → XH) (t k a : Nat) (L : List Value) : α × XH → Option (SR ρ) := fun q => if (xT q.2 a).1 = t then some (.inl (L, set q.2 a k q.1)) else none
theorem kPut2_p (set : XH → Nat → Nat → α → XH) (t k a : Nat) (L : List Value) (v : α) (h : XH) : (kPut2 set t k a L (v, h) : Option (SR ρ)) = if (xT h a).1 = t then some (.inl (L, set h a k v)) else none := rfl
def kPut1 (set : XH → Nat → Nat → α → XH) (t k : Nat) (f : EE α) (L : List Value) : Option Nat × XH → Option (SR ρ) := fun r => r.1.bind fun a => (f L r.2).bind (kPut2 set t k a L)
theorem kPut1_p (set : XH → Nat → Nat → α → XH) (t k : Nat) (f : EE α) (L : List Value) (a : Nat) (h : XH) : (kPut1 set t k f L (some a, h) : Option (SR ρ)) = (f L h).bind (kPut2 set t k a L) := rfl
theorem sPut_a (set : XH → Nat → Nat → α → XH) (t k : Nat) (o : EE (Option Nat)) (f : EE α) (L : List Value) (h : XH) : (sPut set t k o f : SS ρ) L h = (o L h).bind (kPut1 set t k f L) := rfl
def kPutC2 (pl : XH → Nat → Nat → α) (set : XH → Nat → Nat → α → XH) (op : α → β → α) (t k a : Nat) (v : α) (L : List Value) : β × XH → Option (SR ρ) := fun q => if (xT q.2 a).1 = t then some (.inl (L, set q.2 a k (op v q.1))) else none
theorem kPutC2_p (pl : XH → Nat → Nat → α) (set : XH → Nat → Nat → α → XH) (op : α → β → α) (t k a : Nat) (v : α) (L : List Value) (w : β) (h : XH) : (kPutC2 pl set op t k a v L (w, h) : Option (SR ρ)) = if (xT h a).1 = t then some (.inl (L, set h a k (op v w))) else none := rfl
def kPutC1 (pl : XH → Nat → Nat → α) (set : XH → Nat → Nat → α → XH) (op : α → β → α) (t k : Nat) (f : EE β) (L : List Value) : Option Nat × XH → Option (SR ρ) := fun r => r.1.bind fun a => if (xT r.2 a).1 = t then (f L r.2).bind (kPutC2 pl set op t k a (pl r.2 a k) L) else none
theorem kPutC1_p (pl : XH → Nat → Nat → α) (set : XH → Nat → Nat → α → XH) (op : α → β → α) (t k : Nat) (f : EE β) (L : List Value) (a : Nat) (h : XH) : (kPutC1 pl set op t k f L (some a, h) : Option (SR ρ)) = if (xT h a).1 = t then (f L h).bind (kPutC2 pl set op t k a (pl h a k) L) else none := rfl
theorem sPutC_a (pl : XH → Nat → Nat → α) (set : XH → Nat → Nat → α → XH) (op : α → β → α) (t k : Nat) (o : EE (Option Nat)) (f : EE β) (L : List Value) (h : XH) : (sPutC pl set op t k o f : SS ρ) L h = (o L h).bind (kPutC1 pl set op t k f L) := rfl
def kAst3 (set : XH → Nat → Nat → α → XH) (t a : Nat) (i : Int32) (L : List Value) : α × XH → Option (SR ρ) := fun q => if (xT q.2 a).1 = t ∧ ¬ (i < 0 ∨ (xT q.2 a).2 ≤ i.toNatClampNeg) then some (.inl (L, set q.2 a i.toNatClampNeg q.1)) else none
theorem kAst3_p (set : XH → Nat → Nat → α → XH) (t a : Nat) (i : Int32) (L : List Value) (v : α) (h : XH) : (kAst3 set t a i L (v, h) : Option (SR ρ)) = if (xT h a).1 = t ∧ ¬ (i < 0 ∨ (xT h a).2 ≤ i.toNatClampNeg) then some (.inl (L, set h a i.toNatClampNeg v)) else none := rfl
def kAst2 (set : XH → Nat → Nat → α → XH) (t a : Nat) (f : EE α) (L : List Value) : Int32 × XH → Option (SR ρ) := fun i => (f L i.2).bind (kAst3 set t a i.1 L)
theorem kAst2_p (set : XH → Nat → Nat → α → XH) (t a : Nat) (f : EE α) (L : List Value) (i : Int32) (h : XH) : (kAst2 set t a f L (i, h) : Option (SR ρ)) = (f L h).bind (kAst3 set t a i L) := rfl
def kAst1 (set : XH → Nat → Nat → α → XH) (t : Nat) (g : EE Int32) (f : EE α) (L : List Value) : Option Nat × XH → Option (SR ρ) := fun r => r.1.bind fun a => (g L r.2).bind (kAst2 set t a f L)
theorem kAst1_p (set : XH → Nat → Nat → α → XH) (t : Nat) (g : EE Int32) (f : EE α) (L : List Value) (a : Nat) (h : XH) : (kAst1 set t g f L (some a, h) : Option (SR ρ)) = (g L h).bind (kAst2 set t a f L) := rfl
theorem sAst_a (set : XH → Nat → Nat → α → XH) (t : Nat) (o : EE (Option Nat)) (g : EE Int32) (f : EE α) (L : List Value) (h : XH) : (sAst set t o g f : SS ρ) L h = (o L h).bind (kAst1 set t g f L) := rfl
def kAstC3 (op : Int32 → Int32 → Int32) (a : Nat) (i v : Int32) (L : List Value) : Int32 × XH → Option (SR ρ) := fun q => if (xT q.2 a).1 = 100 ∧ ¬ (i < 0 ∨ (xT q.2 a).2 ≤ i.toNatClampNeg) then some (.inl (L, sI q.2 a i.toNatClampNeg (op v q.1))) else none
theorem kAstC3_p (op : Int32 → Int32 → Int32) (a : Nat) (i v : Int32) (L : List Value) (w : Int32) (h : XH) : (kAstC3 op a i v L (w, h) : Option (SR ρ)) = if (xT h a).1 = 100 ∧ ¬ (i < 0 ∨ (xT h a).2 ≤ i.toNatClampNeg) then some (.inl (L, sI h a i.toNatClampNeg (op v w))) else none := rfl
def kAstC2 (op : Int32 → Int32 → Int32) (f : EE Int32) (a : Nat) (L : List Value) : Int32 × XH → Option (SR ρ) := fun i => if (xT i.2 a).1 = 100 ∧ ¬ (i.1 < 0 ∨ (xT i.2 a).2 ≤ i.1.toNatClampNeg) then (f L i.2).bind (kAstC3 op a i.1 (xI i.2 a i.1.toNatClampNeg) L) else none
theorem kAstC2_p (op : Int32 → Int32 → Int32) (f : EE Int32) (a : Nat) (L : List Value) (i : Int32) (h : XH) : (kAstC2 op f a L (i, h) : Option (SR ρ)) = if (xT h a).1 = 100 ∧ ¬ (i < 0 ∨ (xT h a).2 ≤ i.toNatClampNeg) then (f L h).bind (kAstC3 op a i (xI h a i.toNatClampNeg) L) else none := rfl
def kAstC1 (op : Int32 → Int32 → Int32) (g f : EE Int32) (L : List Value) : Option Nat × XH → Option (SR ρ) := fun r => r.1.bind fun a => (g L r.2).bind (kAstC2 op f a L)
theorem kAstC1_p (op : Int32 → Int32 → Int32) (g f : EE Int32) (L : List Value) (a : Nat) (h : XH) : (kAstC1 op g f L (some a, h) : Option (SR ρ)) = (g L h).bind (kAstC2 op f a L) := rfl
theorem sAstC_a (op : Int32 → Int32 → Int32) (o : EE (Option Nat)) (g f : EE Int32) (L : List Value) (h : XH) : (sAstC op o g f : SS ρ) L h = (o L h).bind (kAstC1 op g f L) := rfl
def kAstZ3 (a : Nat) (i : Int32) (L : List Value) : Int32 × XH → Option (SR ρ) := fun q => if (xT q.2 a).1 = 102 ∧ ¬ (i < 0 ∨ (xT q.2 a).2 ≤ i.toNatClampNeg) ∧ (q.1 = 0 ∨ q.1 = 1) then some (.inl (L, sI q.2 a i.toNatClampNeg q.1)) else none
theorem kAstZ3_p (a : Nat) (i : Int32) (L : List Value) (v : Int32) (h : XH) : (kAstZ3 a i L (v, h) : Option (SR ρ)) = if (xT h a).1 = 102 ∧ ¬ (i < 0 ∨ (xT h a).2 ≤ i.toNatClampNeg) ∧ (v = 0 ∨ v = 1) then some (.inl (L, sI h a i.toNatClampNeg v)) else none := rfl
def kAstZ2 (a : Nat) (f : EE Int32) (L : List Value) : Int32 × XH → Option (SR ρ) := fun i => (f L i.2).bind (kAstZ3 a i.1 L)
theorem kAstZ2_p (a : Nat) (f : EE Int32) (L : List Value) (i : Int32) (h : XH) : (kAstZ2 a f L (i, h) : Option (SR ρ)) = (f L h).bind (kAstZ3 a i L) := rfl
def kAstZ1 (g f : EE Int32) (L : List Value) : Option Nat × XH → Option (SR ρ) := fun r => r.1.bind fun a => (g L r.2).bind (kAstZ2 a f L)
theorem kAstZ1_p (g f : EE Int32) (L : List Value) (a : Nat) (h : XH) : (kAstZ1 g f L (some a, h) : Option (SR ρ)) = (g L h).bind (kAstZ2 a f L) := rfl
theorem sAstZ_a (o : EE (Option Nat)) (g f : EE Int32) (L : List Value) (h : XH) : (sAstZ o g f : SS ρ) L h = (o L h).bind (kAstZ1 g f L) := rfl
def kAstO3 (a : Nat) (i : Int32) (L : List Value) : Option Nat × XH → Option (SR ρ) := fun q => q.1.bind fun v => if (xT q.2 a).1 = 105 ∧ ¬ (i < 0 ∨ (xT q.2 a).2 ≤ i.toNatClampNeg) ∧ (xT q.2 v).1 ∈ okT then some (.inl (L, sA q.2 a i.toNatClampNeg (some v))) else none
theorem kAstO3_p (a : Nat) (i : Int32) (L : List Value) (v : Nat) (h : XH) : (kAstO3 a i L (some v, h) : Option (SR ρ)) = if (xT h a).1 = 105 ∧ ¬ (i < 0 ∨ (xT h a).2 ≤ i.toNatClampNeg) ∧ (xT h v).1 ∈ okT then some (.inl (L, sA h a i.toNatClampNeg (some v))) else none := rfl
def kAstO2 (a : Nat) (f : EE (Option Nat)) (L : List Value) : Int32 × XH → Option (SR ρ) := fun i => (f L i.2).bind (kAstO3 a i.1 L)
theorem kAstO2_p (a : Nat) (f : EE (Option Nat)) (L : List Value) (i : Int32) (h : XH) : (kAstO2 a f L (i, h) : Option (SR ρ)) = (f L h).bind (kAstO3 a i L) := rfl
def kAstO1 (g : EE Int32) (f : EE (Option Nat)) (L : List Value) : Option Nat × XH → Option (SR ρ) := fun r => r.1.bind fun a => (g L r.2).bind (kAstO2 a f L)
theorem kAstO1_p (g : EE Int32) (f : EE (Option Nat)) (L : List Value) (a : Nat) (h : XH) : (kAstO1 g f L (some a, h) : Option (SR ρ)) = (g L h).bind (kAstO2 a f L) := rfl
theorem sAstO_a (o : EE (Option Nat)) (g : EE Int32) (f : EE (Option Nat)) (L : List Value) (h : XH) : (sAstO o g f : SS ρ) L h = (o L h).bind (kAstO1 g f L) := rfl
def kAstA3 (t tv a : Nat) (i : Int32) (L : List Value) : Option Nat × XH → Option (SR ρ) := fun q => q.1.bind fun v => if (xT q.2 a).1 = t ∧ ¬ (i < 0 ∨ (xT q.2 a).2 ≤ i.toNatClampNeg) ∧ (xT q.2 v).1 = tv then some (.inl (L, sA q.2 a i.toNatClampNeg (some v))) else none
theorem kAstA3_p (t tv a : Nat) (i : Int32) (L : List Value) (v : Nat) (h : XH) : (kAstA3 t tv a i L (some v, h) : Option (SR ρ)) = if (xT h a).1 = t ∧ ¬ (i < 0 ∨ (xT h a).2 ≤ i.toNatClampNeg) ∧ (xT h v).1 = tv then some (.inl (L, sA h a i.toNatClampNeg (some v))) else none := rfl
def kAstA2 (t tv a : Nat) (f : EE (Option Nat)) (L : List Value) : Int32 × XH → Option (SR ρ) := fun i => (f L i.2).bind (kAstA3 t tv a i.1 L)
theorem kAstA2_p (t tv a : Nat) (f : EE (Option Nat)) (L : List Value) (i : Int32) (h : XH) : (kAstA2 t tv a f L (i, h) : Option (SR ρ)) = (f L h).bind (kAstA3 t tv a i L) := rfl
def kAstA1 (t tv : Nat) (g : EE Int32) (f : EE (Option Nat)) (L : List Value) : Option Nat × XH → Option (SR ρ) := fun r => r.1.bind fun a => (g L r.2).bind (kAstA2 t tv a f L)
theorem kAstA1_p (t tv : Nat) (g : EE Int32) (f : EE (Option Nat)) (L : List Value) (a : Nat) (h : XH) : (kAstA1 t tv g f L (some a, h) : Option (SR ρ)) = (g L h).bind (kAstA2 t tv a f L) := rfl
theorem sAstA_a (t tv : Nat) (o : EE (Option Nat)) (g : EE Int32) (f : EE (Option Nat)) (L : List Value) (h : XH) : (sAstA t tv o g f : SS ρ) L h = (o L h).bind (kAstA1 t tv g f L) := rfl
def kX (L : List Value) : α × XH → Option (SR ρ) := fun r => some (.inl (L, r.2))
theorem kX_p (L : List Value) (v : α) (h : XH) : (kX L (v, h) : Option (SR ρ)) = some (.inl (L, h)) := rfl
theorem sX_a (f : EE α) (L : List Value) (h : XH) : (sX f : SS ρ) L h = (f L h).bind (kX L) := rfl
def kIf (a b : SS ρ) (L : List Value) : Bool × XH → Option (SR ρ) := fun r => if r.1 = true then a L r.2 else b L r.2
theorem kIf_p (a b : SS ρ) (L : List Value) (p : Bool) (h : XH) : kIf a b L (p, h) = if p = true then a L h else b L h := rfl
theorem sIf_a (c : EE Bool) (a b : SS ρ) (L : List Value) (h : XH) : sIf c a b L h = (c L h).bind (kIf a b L) := rfl
def kRet : ρ × XH → Option (SR ρ) := fun r => some (.inr r)
theorem kRet_p (v : ρ) (h : XH) : kRet (v, h) = some (.inr (v, h)) := rfl
theorem sRet_a (f : EE ρ) (L : List Value) (h : XH) : sRet f L h = (f L h).bind kRet := rfl
def kRetZ : Int32 × XH → Option (SR Int32) := fun r => if r.1 = 0 ∨ r.1 = 1 then some (.inr r) else none
theorem kRetZ_p (v : Int32) (h : XH) : kRetZ (v, h) = if v = 0 ∨ v = 1 then some (.inr (v, h)) else none := rfl
theorem sRetZ_a (f : EE Int32) (L : List Value) (h : XH) : sRetZ f L h = (f L h).bind kRetZ := rfl
theorem sRetV_a (L : List Value) (h : XH) : sRetV L h = some (.inr ((), h)) := rfl
def kSw (g : Int32 → SS ρ) (L : List Value) : Int32 × XH → Option (SR ρ) := fun r => g r.1 L r.2
theorem kSw_p (g : Int32 → SS ρ) (L : List Value) (v : Int32) (h : XH) : kSw g L (v, h) = g v L h := rfl
theorem sSw_a (f : EE Int32) (g : Int32 → SS ρ) (L : List Value) (h : XH) : sSw f g L h = (f L h).bind (kSw g L) := rfl
def kPutZ2 (t k a : Nat) (L : List Value) : Int32 × XH → Option (SR ρ) := fun q => if (xT q.2 a).1 = t ∧ (q.1 = 0 ∨ q.1 = 1) then some (.inl (L, sI q.2 a k q.1)) else none
theorem kPutZ2_p (t k a : Nat) (L : List Value) (v : Int32) (h : XH) : (kPutZ2 t k a L (v, h) : Option (SR ρ)) = if (xT h a).1 = t ∧ (v = 0 ∨ v = 1) then some (.inl (L, sI h a k v)) else none := rfl
def kPutZ1 (t k : Nat) (f : EE Int32) (L : List Value) : Option Nat × XH → Option (SR ρ) := fun r => r.1.bind fun a => (f L r.2).bind (kPutZ2 t k a L)
theorem kPutZ1_p (t k : Nat) (f : EE Int32) (L : List Value) (a : Nat) (h : XH) : (kPutZ1 t k f L (some a, h) : Option (SR ρ)) = (f L h).bind (kPutZ2 t k a L) := rfl
theorem sPutZ_a (t k : Nat) (o : EE (Option Nat)) (f : EE Int32) (L : List Value) (h : XH) : (sPutZ t k o f : SS ρ) L h = (o L h).bind (kPutZ1 t k f L) := rfl
theorem eI_a (n : Int32) (L : List Value) (h : XH) : eI n L h = some (n, h) := rfl
theorem eJ_a (n : Int64) (L : List Value) (h : XH) : eJ n L h = some (n, h) := rfl
theorem eN_a (L : List Value) (h : XH) : eN L h = some (none, h) := rfl
def kL (h : XH) : α → Option (α × XH) := fun x => some (x, h)
theorem kL_p (h : XH) (x : α) : kL h x = some (x, h) := rfl
theorem eLI_a (k : Nat) (L : List Value) (h : XH) : eLI k L h = (gI L[k]?).bind (kL h) := rfl
theorem eLJ_a (k : Nat) (L : List Value) (h : XH) : eLJ k L h = (gJ L[k]?).bind (kL h) := rfl
theorem eLA_a (k : Nat) (L : List Value) (h : XH) : eLA k L h = (gR L[k]?).bind (kL h) := rfl
def kT2 (op : α → β → γ) (a : α) : β × XH → Option (γ × XH) := fun q => some (op a q.1, q.2)
theorem kT2_p (op : α → β → γ) (a : α) (b : β) (h : XH) : kT2 op a (b, h) = some (op a b, h) := rfl
def kT (op : α → β → γ) (g : EE β) (L : List Value) : α × XH → Option (γ × XH) := fun r => (g L r.2).bind (kT2 op r.1)
theorem kT_p (op : α → β → γ) (g : EE β) (L : List Value) (a : α) (h : XH) : kT op g L (a, h) = (g L h).bind (kT2 op a) := rfl
theorem eT_a (op : α → β → γ) (f : EE α) (g : EE β) (L : List Value) (h : XH) : eT op f g L h = (f L h).bind (kT op g L) := rfl
def kP2 (op : α → β → Option γ) (a : α) : β × XH → Option (γ × XH) := fun q => (op a q.1).bind (kL q.2)
theorem kP2_p (op : α → β → Option γ) (a : α) (b : β) (h : XH) : kP2 op a (b, h) = (op a b).bind (kL h) := rfl
def kP (op : α → β → Option γ) (g : EE β) (L : List Value) : α × XH → Option (γ × XH) := fun r => (g L r.2).bind (kP2 op r.1)
theorem kP_p (op : α → β → Option γ) (g : EE β) (L : List Value) (a : α) (h : XH) : kP op g L (a, h) = (g L h).bind (kP2 op a) := rfl
theorem eP_a (op : α → β → Option γ) (f : EE α) (g : EE β) (L : List Value) (h : XH) : eP op f g L h = (f L h).bind (kP op g L) := rfl
def kU (op : α → β) : α × XH → Option (β × XH) := fun r => some (op r.1, r.2)
theorem kU_p (op : α → β) (a : α) (h : XH) : kU op (a, h) = some (op a, h) := rfl
theorem eU_a (op : α → β) (f : EE α) (L : List Value) (h : XH) : eU op f L h = (f L h).bind (kU op) := rfl
def kGet (pl : XH → Nat → Nat → α) (t k : Nat) : Option Nat × XH → Option (α × XH) := fun r => r.1.bind fun a => if (xT r.2 a).1 = t then some (pl r.2 a k, r.2) else none
theorem kGet_p (pl : XH → Nat → Nat → α) (t k a : Nat) (h : XH) : kGet pl t k (some a, h) = if (xT h a).1 = t then some (pl h a k, h) else none := rfl
theorem eGet_a (pl : XH → Nat → Nat → α) (t k : Nat) (f : EE (Option Nat)) (L : List Value) (h : XH) : eGet pl t k f L h = (f L h).bind (kGet pl t k) := rfl
def kAld2 (pl : XH → Nat → Nat → α) (t a : Nat) : Int32 × XH → Option (α × XH) := fun q => if (xT q.2 a).1 = t ∧ ¬ (q.1 < 0 ∨ (xT q.2 a).2 ≤ q.1.toNatClampNeg) then some (pl q.2 a q.1.toNatClampNeg, q.2) else none
theorem kAld2_p (pl : XH → Nat → Nat → α) (t a : Nat) (i : Int32) (h : XH) : kAld2 pl t a (i, h) = if (xT h a).1 = t ∧ ¬ (i < 0 ∨ (xT h a).2 ≤ i.toNatClampNeg) then some (pl h a i.toNatClampNeg, h) else none := rfl
def kAld1 (pl : XH → Nat → Nat → α) (t : Nat) (g : EE Int32) (L : List Value) : Option Nat × XH → Option (α × XH) := fun r => r.1.bind fun a => (g L r.2).bind (kAld2 pl t a)
theorem kAld1_p (pl : XH → Nat → Nat → α) (t : Nat) (g : EE Int32) (L : List Value) (a : Nat) (h : XH) : kAld1 pl t g L (some a, h) = (g L h).bind (kAld2 pl t a) := rfl
theorem eAld_a (pl : XH → Nat → Nat → α) (t : Nat) (f : EE (Option Nat)) (g : EE Int32) (L : List Value) (h : XH) : eAld pl t f g L h = (f L h).bind (kAld1 pl t g L) := rfl
def kLen : Option Nat × XH → Option (Int32 × XH) := fun r => r.1.bind fun a => if 100 ≤ (xT r.2 a).1 then some (Int32.ofNat (xT r.2 a).2, r.2) else none
theorem kLen_p (a : Nat) (h : XH) : kLen (some a, h) = if 100 ≤ (xT h a).1 then some (iN (xT h a).2, h) else none := rfl
theorem eLen_a (f : EE (Option Nat)) (L : List Value) (h : XH) : eLen f L h = (f L h).bind kLen := rfl
def kEIf (a b : EE α) (L : List Value) : Bool × XH → Option (α × XH) := fun r => if r.1 = true then a L r.2 else b L r.2
theorem kEIf_p (a b : EE α) (L : List Value) (p : Bool) (h : XH) : kEIf a b L (p, h) = if p = true then a L h else b L h := rfl
theorem eIf_a (c : EE Bool) (a b : EE α) (L : List Value) (h : XH) : eIf c a b L h = (c L h).bind (kEIf a b L) := rfl
def kCast (t : Nat) : Option Nat × XH → Option (Option Nat × XH) := fun r => r.1.bind fun a => if (xT r.2 a).1 = t then some (some a, r.2) else none
theorem kCast_p (t a : Nat) (h : XH) : kCast t (some a, h) = if (xT h a).1 = t then some (some a, h) else none := rfl
theorem eCast_a (t : Nat) (f : EE (Option Nat)) (L : List Value) (h : XH) : eCast t f L h = (f L h).bind (kCast t) := rfl
theorem aN_a (L : List Value) (h : XH) : aN L h = some ([], h) := rfl
def kC2 (v : Value) : List Value × XH → Option (List Value × XH) := fun q => some (v :: q.1, q.2)
theorem kC2_p (v : Value) (l : List Value) (h : XH) : kC2 v (l, h) = some (v :: l, h) := rfl
def kC (inj : α → Value) (g : EE (List Value)) (L : List Value) : α × XH → Option (List Value × XH) := fun r => (g L r.2).bind (kC2 (inj r.1))
theorem kC_p (inj : α → Value) (g : EE (List Value)) (L : List Value) (a : α) (h : XH) : kC inj g L (a, h) = (g L h).bind (kC2 (inj a)) := rfl
theorem aC_a (inj : α → Value) (f : EE α) (g : EE (List Value)) (L : List Value) (h : XH) : aC inj f g L h = (f L h).bind (kC inj g L) := rfl
def kCS (F : List Value → XH → Option (ρ × XH)) : List Value × XH → Option (ρ × XH) := fun r => F r.1 r.2
theorem kCS_p (F : List Value → XH → Option (ρ × XH)) (l : List Value) (h : XH) : kCS F (l, h) = F l h := rfl
theorem eCallS_a (F : List Value → XH → Option (ρ × XH)) (as : EE (List Value)) (L : List Value) (h : XH) : eCallS F as L h = (as L h).bind (kCS F) := rfl
def kCV2 (t : Nat) (F : List Value → XH → Option (ρ × XH)) (a : Nat) : List Value × XH → Option (ρ × XH) := fun q => if (xT q.2 a).1 = t then F (.ref a :: q.1) q.2 else none
theorem kCV2_p (t : Nat) (F : List Value → XH → Option (ρ × XH)) (a : Nat) (l : List Value) (h : XH) : kCV2 t F a (l, h) = if (xT h a).1 = t then F (.ref a :: l) h else none := rfl
def kCV1 (t : Nat) (F : List Value → XH → Option (ρ × XH)) (as : EE (List Value)) (L : List Value) : Option Nat × XH → Option (ρ × XH) := fun r => r.1.bind fun a => (as L r.2).bind (kCV2 t F a)
theorem kCV1_p (t : Nat) (F : List Value → XH → Option (ρ × XH)) (as : EE (List Value)) (L : List Value) (a : Nat) (h : XH) : kCV1 t F as L (some a, h) = (as L h).bind (kCV2 t F a) := rfl
theorem eCallV_a (t : Nat) (F : List Value → XH → Option (ρ × XH)) (f : EE (Option Nat)) (as : EE (List Value)) (L : List Value) (h : XH) : eCallV t F f as L h = (f L h).bind (kCV1 t F as L) := rfl
def kN2 (a : Nat) : Unit × XH → Option (Option Nat × XH) := fun u => some (some a, u.2)
theorem kN2_p (a : Nat) (u : Unit) (h : XH) : kN2 a (u, h) = some (some a, h) := rfl
def kN1 (F : List Value → XH → Option (Unit × XH)) (a : Nat) : List Value × XH → Option (Option Nat × XH) := fun q => (F (.ref a :: q.1) q.2).bind (kN2 a)
theorem kN1_p (F : List Value → XH → Option (Unit × XH)) (a : Nat) (l : List Value) (h : XH) : kN1 F a (l, h) = (F (.ref a :: l) h).bind (kN2 a) := rfl
theorem eNew_a (t n : Nat) (F : List Value → XH → Option (Unit × XH)) (as : EE (List Value)) (L : List Value) (h : XH) : eNew t n F as L h = (as L (xNew h t n)).bind (kN1 F (xN h)) := rfl
def kNA (t : Nat) : Int32 × XH → Option (Option Nat × XH) := fun r => if ¬ (r.1 < 0) ∧ r.1.toNatClampNeg ≤ 65536 then some (some (xN r.2), xNew r.2 t r.1.toNatClampNeg) else none
theorem kNA_p (t : Nat) (v : Int32) (h : XH) : kNA t (v, h) = if ¬ (v < 0) ∧ v.toNatClampNeg ≤ 65536 then some (some (xN h), xNew h t v.toNatClampNeg) else none := rfl
theorem eNewA_a (t : Nat) (f : EE Int32) (L : List Value) (h : XH) : eNewA t f L h = (f L h).bind (kNA t) := rfl
def kSt3 (a : Nat) (i : Int32) : Int32 × XH → Option (Option Nat × XH) := fun q => if (xT q.2 a).1 = 100 ∧ ¬ (i < 0 ∨ (xT q.2 a).2 ≤ i.toNatClampNeg) then some (some a, sI q.2 a i.toNatClampNeg q.1) else none
theorem kSt3_p (a : Nat) (i v : Int32) (h : XH) : kSt3 a i (v, h) = if (xT h a).1 = 100 ∧ ¬ (i < 0 ∨ (xT h a).2 ≤ i.toNatClampNeg) then some (some a, sI h a i.toNatClampNeg v) else none := rfl
def kSt2 (a : Nat) (v : EE Int32) (L : List Value) : Int32 × XH → Option (Option Nat × XH) := fun i => (v L i.2).bind (kSt3 a i.1)
theorem kSt2_p (a : Nat) (v : EE Int32) (L : List Value) (i : Int32) (h : XH) : kSt2 a v L (i, h) = (v L h).bind (kSt3 a i) := rfl
def kSt1 (g v : EE Int32) (L : List Value) : Option Nat × XH → Option (Option Nat × XH) := fun r => r.1.bind fun a => (g L r.2).bind (kSt2 a v L)
theorem kSt1_p (g v : EE Int32) (L : List Value) (a : Nat) (h : XH) : kSt1 g v L (some a, h) = (g L h).bind (kSt2 a v L) := rfl
theorem eSt_a (f : EE (Option Nat)) (g v : EE Int32) (L : List Value) (h : XH) : eSt f g v L h = (f L h).bind (kSt1 g v L) := rfl
def kSA2 (t k a : Nat) : Option Nat × XH → Option (Option Nat × XH) := fun q => if (xT q.2 a).1 = t then some (q.1, sA q.2 a k q.1) else none
theorem kSA2_p (t k a : Nat) (v : Option Nat) (h : XH) : kSA2 t k a (v, h) = if (xT h a).1 = t then some (v, sA h a k v) else none := rfl
def kSA1 (t k : Nat) (f : EE (Option Nat)) (L : List Value) : Option Nat × XH → Option (Option Nat × XH) := fun r => r.1.bind fun a => (f L r.2).bind (kSA2 t k a)
theorem kSA1_p (t k : Nat) (f : EE (Option Nat)) (L : List Value) (a : Nat) (h : XH) : kSA1 t k f L (some a, h) = (f L h).bind (kSA2 t k a) := rfl
theorem eSetA_a (t k : Nat) (o f : EE (Option Nat)) (L : List Value) (h : XH) : eSetA t k o f L h = (o L h).bind (kSA1 t k f L) := rfl
theorem eZ_a (z : Nat × Nat) (L : List Value) (h : XH) : eZ z L h = some (some z.1, h) := rfl
theorem eMi_a (z : Nat × Nat) (L : List Value) (h : XH) : eMi z L h = some (some z.2, h) := rfl
def kCl (z : Nat × Nat) : Option Nat × XH → Option (Option Nat × XH) := fun r => r.1.bind fun a => if (xT r.2 a).1 = 105 then some (some z.2, r.2) else none
theorem kCl_p (z : Nat × Nat) (a : Nat) (h : XH) : kCl z (some a, h) = if (xT h a).1 = 105 then some (some z.2, h) else none := rfl
theorem eCls_a (z : Nat × Nat) (f : EE (Option Nat)) (L : List Value) (h : XH) : eCls z f L h = (f L h).bind (kCl z) := rfl
def kAnd (b : EE Bool) (L : List Value) : Bool × XH → Option (Bool × XH) := fun r => if r.1 = true then b L r.2 else some (false, r.2)
theorem kAnd_p (b : EE Bool) (L : List Value) (p : Bool) (h : XH) : kAnd b L (p, h) = if p = true then b L h else some (false, h) := rfl
theorem cAnd_a (a b : EE Bool) (L : List Value) (h : XH) : cAnd a b L h = (a L h).bind (kAnd b L) := rfl
def kOr (b : EE Bool) (L : List Value) : Bool × XH → Option (Bool × XH) := fun r => if r.1 = true then some (true, r.2) else b L r.2
theorem kOr_p (b : EE Bool) (L : List Value) (p : Bool) (h : XH) : kOr b L (p, h) = if p = true then some (true, h) else b L h := rfl
theorem cOr_a (a b : EE Bool) (L : List Value) (h : XH) : cOr a b L h = (a L h).bind (kOr b L) := rfl
theorem cNot_a (c : EE Bool) (L : List Value) (h : XH) : cNot c L h = (c L h).bind (kU not) := rfl
theorem cZ_a (f : EE Int32) (L : List Value) (h : XH) : cZ f L h = (f L h).bind (kU (fun x => decide (¬ x = 0))) := rfl
theorem cNul_a (f : EE (Option Nat)) (L : List Value) (h : XH) : cNul f L h = (f L h).bind (kU (fun r => decide (r = none))) := rfl
theorem cNN_a (f : EE (Option Nat)) (L : List Value) (h : XH) : cNN f L h = (f L h).bind (kU (fun r => decide (¬ r = none))) := rfl
theorem cAeq_a (f g : EE (Option Nat)) (L : List Value) (h : XH) : cAeq f g L h = (f L h).bind (kT (fun a b => decide (a = b)) g L) := rfl
theorem cAne_a (f g : EE (Option Nat)) (L : List Value) (h : XH) : cAne f g L h = (f L h).bind (kT (fun a b => decide (¬ a = b)) g L) := rfl
def kObj (L : List Value) (h : XH) : Option Nat × XH → Option (SR ρ) := fun r => r.1.bind fun _ => some (.inl (L, h))
theorem kObj_p (L : List Value) (h h' : XH) (a : Nat) : (kObj L h (some a, h') : Option (SR ρ)) = some (.inl (L, h)) := rfl
theorem sObj_a (L : List Value) (h : XH) : (sObj : SS ρ) L h = (eLA 0 L h).bind (kObj L h) := rfl
def kSup2 (L : List Value) : Unit × XH → Option (SR ρ) := fun u => some (.inl (L, u.2))
theorem kSup2_p (L : List Value) (u : Unit) (h : XH) : (kSup2 L (u, h) : Option (SR ρ)) = some (.inl (L, h)) := rfl
def kSup1 (F : List Value → XH → Option (Unit × XH)) (L : List Value) (h : XH) : Option Nat × XH → Option (SR ρ) := fun r => r.1.bind fun a => (F [.ref a] h).bind (kSup2 L)
theorem kSup1_p (F : List Value → XH → Option (Unit × XH)) (L : List Value) (h h' : XH) (a : Nat) : (kSup1 F L h (some a, h') : Option (SR ρ)) = (F [.ref a] h).bind (kSup2 L) := rfl
theorem sSup_a (F : List Value → XH → Option (Unit × XH)) (L : List Value) (h : XH) : (sSup F : SS ρ) L h = (eLA 0 L h).bind (kSup1 F L h) := rfl
def kCp5 (t : Nat) (cp : XH → Nat → Nat → Nat → Nat → Nat → XH) (a : Nat) (i : Int32) (b : Nat) (j : Int32) (L : List Value) : Int32 × XH → Option (SR ρ) := fun n => if (xT n.2 a).1 = t ∧ (xT n.2 b).1 = t ∧ ¬ i < 0 ∧ ¬ j < 0 ∧ ¬ n.1 < 0 ∧ i.toNatClampNeg + n.1.toNatClampNeg ≤ (xT n.2 a).2 ∧ j.toNatClampNeg + n.1.toNatClampNeg ≤ (xT n.2 b).2 then some (.inl (L, cp n.2 a i.toNatClampNeg b j.toNatClampNeg n.1.toNatClampNeg)) else none
theorem kCp5_p (t : Nat) (cp : XH → Nat → Nat → Nat → Nat → Nat → XH) (a : Nat) (i : Int32) (b : Nat) (j : Int32) (L : List Value) (n : Int32) (h : XH) : (kCp5 t cp a i b j L (n, h) : Option (SR ρ)) = if (xT h a).1 = t ∧ (xT h b).1 = t ∧ ¬ i < 0 ∧ ¬ j < 0 ∧ ¬ n < 0 ∧ i.toNatClampNeg + n.toNatClampNeg ≤ (xT h a).2 ∧ j.toNatClampNeg + n.toNatClampNeg ≤ (xT h b).2 then some (.inl (L, cp h a i.toNatClampNeg b j.toNatClampNeg n.toNatClampNeg)) else none := rfl
def kCp4 (t : Nat) (cp : XH → Nat → Nat → Nat → Nat → Nat → XH) (a : Nat) (i : Int32) (b : Nat) (g : EE Int32) (L : List Value) : Int32 × XH → Option (SR ρ) := fun j => (g L j.2).bind (kCp5 t cp a i b j.1 L)
theorem kCp4_p (t : Nat) (cp : XH → Nat → Nat → Nat → Nat → Nat → XH) (a : Nat) (i : Int32) (b : Nat) (g : EE Int32) (L : List Value) (j : Int32) (h : XH) : (kCp4 t cp a i b g L (j, h) : Option (SR ρ)) = (g L h).bind (kCp5 t cp a i b j L) := rfl
def kCp3 (t : Nat) (cp : XH → Nat → Nat → Nat → Nat → Nat → XH) (a : Nat) (i : Int32) (g2 g3 : EE Int32) (L : List Value) : Option Nat × XH → Option (SR ρ) := fun r => r.1.bind fun b => (g2 L r.2).bind (kCp4 t cp a i b g3 L)
theorem kCp3_p (t : Nat) (cp : XH → Nat → Nat → Nat → Nat → Nat → XH) (a : Nat) (i : Int32) (g2 g3 : EE Int32) (L : List Value) (b : Nat) (h : XH) : (kCp3 t cp a i g2 g3 L (some b, h) : Option (SR ρ)) = (g2 L h).bind (kCp4 t cp a i b g3 L) := rfl
def kCp2 (t : Nat) (cp : XH → Nat → Nat → Nat → Nat → Nat → XH) (a : Nat) (o : EE (Option Nat)) (g2 g3 : EE Int32) (L : List Value) : Int32 × XH → Option (SR ρ) := fun i => (o L i.2).bind (kCp3 t cp a i.1 g2 g3 L)
theorem kCp2_p (t : Nat) (cp : XH → Nat → Nat → Nat → Nat → Nat → XH) (a : Nat) (o : EE (Option Nat)) (g2 g3 : EE Int32) (L : List Value) (i : Int32) (h : XH) : (kCp2 t cp a o g2 g3 L (i, h) : Option (SR ρ)) = (o L h).bind (kCp3 t cp a i g2 g3 L) := rfl
def kCp1 (t : Nat) (cp : XH → Nat → Nat → Nat → Nat → Nat → XH) (g1 : EE Int32) (o : EE (Option Nat)) (g2 g3 : EE Int32) (L : List Value) : Option Nat × XH → Option (SR ρ) := fun r => r.1.bind fun a => (g1 L r.2).bind (kCp2 t cp a o g2 g3 L)
theorem kCp1_p (t : Nat) (cp : XH → Nat → Nat → Nat → Nat → Nat → XH) (g1 : EE Int32) (o : EE (Option Nat)) (g2 g3 : EE Int32) (L : List Value) (a : Nat) (h : XH) : (kCp1 t cp g1 o g2 g3 L (some a, h) : Option (SR ρ)) = (g1 L h).bind (kCp2 t cp a o g2 g3 L) := rfl
theorem sCpI_a (o1 : EE (Option Nat)) (g1 : EE Int32) (o2 : EE (Option Nat)) (g2 g3 : EE Int32) (L : List Value) (h : XH) : (sCpI o1 g1 o2 g2 g3 : SS ρ) L h = (o1 L h).bind (kCp1 100 xCpI g1 o2 g2 g3 L) := rfl
end KK
/-! fixed cells: class at x + j (j < 65), reference at x + 65 + j (j < 50) -/
def hh (x : Nat) (h : XH) (C M : Nat → Nat → Int32) (P Q : Nat → Nat → Int64) : XH :=
  (fun a i => if x ≤ a ∧ a < x + 65 then C (a - x) i else if x + 65 ≤ a ∧ a < x + 115 then M (a - x - 65) i else xI h a i,
   fun a i => if x ≤ a ∧ a < x + 65 then P (a - x) i else if x + 65 ≤ a ∧ a < x + 115 then Q (a - x - 65) i else xJ h a i,
   xA h, xT h, xN h, xS h)
section HH
variable {x : Nat} {h : XH} {C M : Nat → Nat → Int32} {P Q : Nat → Nat → Int64}
theorem xA_hh : xA (hh x h C M P Q) = xA h := rfl
theorem xT_hh : xT (hh x h C M P Q) = xT h := rfl
theorem xN_hh : xN (hh x h C M P Q) = xN h := rfl
theorem xS_hh : xS (hh x h C M P Q) = xS h := rfl
theorem xI_0 {i : Nat} : xI (hh x h C M P Q) x i = C 0 i := by simp [xI, hh]
theorem xI_c {j i : Nat} (hj : j < 65) : xI (hh x h C M P Q) (x + j) i = C j i := by simp [xI, hh, hj]
theorem xI_m {j i : Nat} (hj : 65 ≤ j ∧ j < 115) : xI (hh x h C M P Q) (x + j) i = M (j - 65) i := by
  have e : x + j - x - 65 = j - 65 := by omega
  simp only [xI, hh]
  rw [if_neg (by omega), if_pos (by omega), e]
theorem xI_o {a i : Nat} (ha : x + 115 ≤ a) : xI (hh x h C M P Q) a i = xI h a i := by
  simp only [xI, hh]
  rw [if_neg (by omega), if_neg (by omega)]
theorem xJ_0 {i : Nat} : xJ (hh x h C M P Q) x i = P 0 i := by simp [xJ, hh]
theorem xJ_m {j i : Nat} (hj : 65 ≤ j ∧ j < 115) : xJ (hh x h C M P Q) (x + j) i = Q (j - 65) i := by
  have e : x + j - x - 65 = j - 65 := by omega
  simp only [xJ, hh]
  rw [if_neg (by omega), if_pos (by omega), e]
theorem hh_ext {h' : XH} {C' M' : Nat → Nat → Int32} {P' Q' : Nat → Nat → Int64} (g : XH) (e1 : ∀ a i, xI g a i = xI (hh x h' C' M' P' Q') a i) (e2 : ∀ a i, xJ g a i = xJ (hh x h' C' M' P' Q') a i) (e3 : xA g = xA h') (e4 : xT g = xT h') (e5 : xN g = xN h') (e6 : xS g = xS h') : g = hh x h' C' M' P' Q' := by
  obtain ⟨g1, g2, g3, g4, g5, g6⟩ := g
  have a1 : g1 = xI (hh x h' C' M' P' Q') := funext fun a => funext fun i => e1 a i
  have a2 : g2 = xJ (hh x h' C' M' P' Q') := funext fun a => funext fun i => e2 a i
  simp only [xA, xT, xN, xS] at e3 e4 e5 e6
  rw [a1, a2, e3, e4, e5, e6]
  rfl
theorem sI_0 {k : Nat} {v : Int32} : sI (hh x h C M P Q) x k v = hh x h (up2 C 0 k v) M P Q := by
  refine hh_ext _ (fun a i => ?_) (fun a i => rfl) rfl rfl rfl rfl
  simp only [sI, xI, hh, up2]
  by_cases h1 : x ≤ a ∧ a < x + 65
  · simp only [h1, if_true, and_self]
    by_cases h2 : a = x
    · subst h2; simp
    · rw [if_neg (by omega), if_neg (by omega)]
  · simp only [h1, if_false]
    rw [if_neg (by omega)]
theorem sI_c {j k : Nat} {v : Int32} (hj : j < 65) : sI (hh x h C M P Q) (x + j) k v = hh x h (up2 C j k v) M P Q := by
  refine hh_ext _ (fun a i => ?_) (fun a i => rfl) rfl rfl rfl rfl
  simp only [sI, xI, hh, up2]
  by_cases h1 : x ≤ a ∧ a < x + 65
  · simp only [h1, if_true, and_self]
    by_cases h2 : a = x + j
    · subst h2; simp
    · rw [if_neg (by omega), if_neg (by omega)]
  · simp only [h1, if_false]
    rw [if_neg (by omega)]
theorem sI_m {j k : Nat} {v : Int32} (hj : 65 ≤ j ∧ j < 115) : sI (hh x h C M P Q) (x + j) k v = hh x h C (up2 M (j - 65) k v) P Q := by
  refine hh_ext _ (fun a i => ?_) (fun a i => rfl) rfl rfl rfl rfl
  simp only [sI, xI, hh, up2]
  by_cases h1 : x ≤ a ∧ a < x + 65
  · simp only [h1, if_true, and_self]
    rw [if_neg (by omega)]
  · simp only [h1, if_false]
    by_cases h2 : x + 65 ≤ a ∧ a < x + 115
    · simp only [h2, if_true, and_self]
      by_cases h3 : a = x + j
      · subst h3
        rw [show x + j - x - 65 = j - 65 by omega]
        simp
      · rw [if_neg (by omega), if_neg (by omega)]
    · simp only [h2, if_false]
      rw [if_neg (by omega)]
theorem sI_o {a k : Nat} {v : Int32} (ha : x + 115 ≤ a) : sI (hh x h C M P Q) a k v = hh x (sI h a k v) C M P Q := by
  refine hh_ext _ (fun b i => ?_) (fun a i => rfl) rfl rfl rfl rfl
  simp only [sI, xI, hh, up2]
  by_cases h1 : x ≤ b ∧ b < x + 65
  · simp only [h1, if_true, and_self]
    rw [if_neg (by omega)]
  · simp only [h1, if_false]
    by_cases h2 : x + 65 ≤ b ∧ b < x + 115
    · simp only [h2, if_true, and_self]
      rw [if_neg (by omega)]
    · simp only [h2, if_false]
theorem sJ_0 {k : Nat} {v : Int64} : sJ (hh x h C M P Q) x k v = hh x h C M (up2 P 0 k v) Q := by
  refine hh_ext _ (fun a i => rfl) (fun a i => ?_) rfl rfl rfl rfl
  simp only [sJ, xJ, hh, up2]
  by_cases h1 : x ≤ a ∧ a < x + 65
  · simp only [h1, if_true, and_self]
    by_cases h2 : a = x
    · subst h2; simp
    · rw [if_neg (by omega), if_neg (by omega)]
  · simp only [h1, if_false]
    rw [if_neg (by omega)]
theorem sJ_m {j k : Nat} {v : Int64} (hj : 65 ≤ j ∧ j < 115) : sJ (hh x h C M P Q) (x + j) k v = hh x h C M P (up2 Q (j - 65) k v) := by
  refine hh_ext _ (fun a i => rfl) (fun a i => ?_) rfl rfl rfl rfl
  simp only [sJ, xJ, hh, up2]
  by_cases h1 : x ≤ a ∧ a < x + 65
  · simp only [h1, if_true, and_self]
    rw [if_neg (by omega)]
  · simp only [h1, if_false]
    by_cases h2 : x + 65 ≤ a ∧ a < x + 115
    · simp only [h2, if_true, and_self]
      by_cases h3 : a = x + j
      · subst h3
        rw [show x + j - x - 65 = j - 65 by omega]
        simp
      · rw [if_neg (by omega), if_neg (by omega)]
    · simp only [h2, if_false]
      rw [if_neg (by omega)]
theorem sA_hh {a k : Nat} {v : Option Nat} : sA (hh x h C M P Q) a k v = hh x (sA h a k v) C M P Q := rfl
theorem xNew_hh {t n : Nat} (hN : x + 115 ≤ xN h) : xNew (hh x h C M P Q) t n = hh x (xNew h t n) C M P Q := by
  refine hh_ext _ (fun b i => ?_) (fun b i => ?_) rfl rfl rfl rfl
  · simp only [xNew, xI, hh, row0, xN_hh]
    simp only [xN] at hN ⊢
    by_cases h1 : x ≤ b ∧ b < x + 65
    · simp only [h1, if_true, and_self]
      rw [if_neg (by omega)]
    · simp only [h1, if_false]
      by_cases h2 : x + 65 ≤ b ∧ b < x + 115
      · simp only [h2, if_true, and_self]
        rw [if_neg (by omega)]
      · simp only [h2, if_false]
        rfl
  · simp only [xNew, xJ, hh, row0, xN_hh]
    simp only [xN] at hN ⊢
    by_cases h1 : x ≤ b ∧ b < x + 65
    · simp only [h1, if_true, and_self]
      rw [if_neg (by omega)]
    · simp only [h1, if_false]
      by_cases h2 : x + 65 ≤ b ∧ b < x + 115
      · simp only [h2, if_true, and_self]
        rw [if_neg (by omega)]
      · simp only [h2, if_false]
        rfl
theorem xCpI_c {a b sp dp n : Nat} (ha : a < 65) (hb : b < 65) : xCpI (hh x h C M P Q) (x + a) sp (x + b) dp n = hh x h (cp2 C a sp b dp n) M P Q := by
  refine hh_ext _ (fun q i => ?_) (fun a i => rfl) rfl rfl rfl rfl
  simp only [xCpI, xI, hh, cp2]
  by_cases h1 : x ≤ q ∧ q < x + 65
  · simp only [h1, if_true, and_self]
    by_cases h2 : q = x + b
    · subst h2
      simp [ha]
    · rw [if_neg (by omega), if_neg (by omega)]
  · simp only [h1, if_false]
    rw [if_neg (by omega)]
end HH
theorem mB_s {ρ : Type} (n9 : Nat) (pads : List Value) (s : SS ρ) (as : List Value) (h : XH) : mB n9 pads s as h = if (lay as).length + pads.length = n9 then (s (lay as ++ pads) h).bind mR else none := rfl
theorem lay_n : lay [] = [] := rfl
theorem lay_i (x : Int32) (t : List Value) : lay (.int x :: t) = .int x :: lay t := rfl
theorem lay_r (a : Nat) (t : List Value) : lay (.ref a :: t) = .ref a :: lay t := rfl
theorem lay_0 (t : List Value) : lay (.null :: t) = .null :: lay t := rfl
theorem lay_l (x : Int64) (t : List Value) : lay (.long x :: t) = .long x :: xD :: lay t := rfl
theorem ifs {α β : Type} {p : Prop} [Decidable p] (a b : α) (h : β) : (if p then some (a, h) else some (b, h)) = some (if p then a else b, h) := by split <;> rfl
theorem if_and {p : Prop} [Decidable p] (q : Bool) : (if p then q else false) = (decide p && q) := by by_cases hp : p <;> simp [hp]
theorem if_or {p : Prop} [Decidable p] (q : Bool) : (if p then true else q) = (decide p || q) := by by_cases hp : p <;> simp [hp]
theorem if_10 {p : Prop} [Decidable p] : (if p then (1 : Int32) else 0) = bI (decide p) := by by_cases hp : p <;> simp [hp, bI]
theorem bI_zn (b : Bool) : (¬ bI b = 0) = (b = true) := by cases b <;> simp [bI]
theorem rGt_s (x y : Int64) : rGt x y = decide (y < x) := by
  unfold rGt lg_cmp
  by_cases h1 : y < x
  · simp [h1]
  · by_cases h2 : x = y
    · subst h2; simp
    · simp [h1, h2]
theorem rLt_s (x y : Int64) : rLt x y = decide (x < y) := by
  unfold rLt lg_cmp
  by_cases h1 : y < x
  · have : ¬ x < y := fun h => by rw [Int64.lt_iff_toInt_lt] at h h1; omega
    simp [h1, this]
  · by_cases h2 : x = y
    · subst h2; simp
    · have : x < y := by
        rw [Int64.lt_iff_toInt_lt] at h1 ⊢
        have : x.toInt ≠ y.toInt := fun e => h2 (Int64.toInt_inj.mp e)
        omega
      simp [h1, h2, this]
theorem bI_nz (b : Bool) : (!decide (bI b = 0)) = b := by cases b <;> rfl
def itr {α : Type} (f : Nat → α → α) (a : α) : Nat → α
  | 0 => a
  | n + 1 => f n (itr f a n)
theorem ifl {α β γ : Type} {p : Prop} [Decidable p] (a b : α) (h : β) : (if p then some (Sum.inl (a, h) : (α × β) ⊕ γ) else some (Sum.inl (b, h))) = some (Sum.inl (if p then a else b, h)) := by split <;> rfl
theorem ifcons {α : Type} {p : Prop} [Decidable p] (a b : α) (k l : List α) : (if p then a :: k else b :: l) = (if p then a else b) :: (if p then k else l) := by split <;> rfl
theorem ifint {p : Prop} [Decidable p] (a b : Int32) : (if p then Value.int a else Value.int b) = Value.int (if p then a else b) := by split <;> rfl
theorem iflong {p : Prop} [Decidable p] (a b : Int64) : (if p then Value.long a else Value.long b) = Value.long (if p then a else b) := by split <;> rfl
theorem if_inc {p : Prop} [Decidable p] (a : Int32) : (if p then a + 1 else a) = a + bI (decide p) := by by_cases hp : p <;> simp [hp, bI]
def oI (o : Option Nat) : Int32 := match o with
  | none => -9
  | some k => iN k
theorem xT_sI (h : XH) (a k : Nat) (v : Int32) : xT (sI h a k v) = xT h := rfl
theorem xT_sA (h : XH) (a k : Nat) (v : Option Nat) : xT (sA h a k v) = xT h := rfl
theorem xN_sI (h : XH) (a k : Nat) (v : Int32) : xN (sI h a k v) = xN h := rfl
theorem xN_sA (h : XH) (a k : Nat) (v : Option Nat) : xN (sA h a k v) = xN h := rfl
theorem xS_sI (h : XH) (a k : Nat) (v : Int32) : xS (sI h a k v) = xS h := rfl
theorem xS_sA (h : XH) (a k : Nat) (v : Option Nat) : xS (sA h a k v) = xS h := rfl
theorem xA_sI (h : XH) (a k : Nat) (v : Int32) : xA (sI h a k v) = xA h := rfl
theorem xI_sA (h : XH) (a k : Nat) (v : Option Nat) : xI (sA h a k v) = xI h := rfl
theorem xI_sI (h : XH) (a k : Nat) (v : Int32) : xI (sI h a k v) = up2 (xI h) a k v := rfl
theorem xA_sA (h : XH) (a k : Nat) (v : Option Nat) : xA (sA h a k v) = up2 (xA h) a k v := rfl
theorem xN_nw (h : XH) (t n : Nat) : xN (xNew h t n) = xN h + 1 := rfl
theorem xS_nw (h : XH) (t n : Nat) : xS (xNew h t n) = xS h + n := rfl
theorem xT_nw (h : XH) (t n : Nat) : xT (xNew h t n) (xN h) = (t, n) := by simp [xNew, xT]
theorem xT_nn {h : XH} {t n b : Nat} (hb : b < xN h) : xT (xNew h t n) b = xT h b := by
  show (if b = xN h then _ else _) = _
  rw [if_neg (by omega)]
theorem xI_nn {h : XH} {t n b k : Nat} (hb : b < xN h) : xI (xNew h t n) b k = xI h b k := by
  show row0 _ _ _ _ _ = _
  unfold row0
  rw [if_neg (by omega)]
theorem xA_nn {h : XH} {t n b k : Nat} (hb : b < xN h) : xA (xNew h t n) b k = xA h b k := by
  show row0 _ _ _ _ _ = _
  unfold row0
  rw [if_neg (by omega)]
theorem xI_nw (h : XH) (t n k : Nat) : xI (xNew h t n) (xN h) k = 0 := by
  show row0 _ _ _ _ _ = _
  simp [row0]
theorem xA_nw (h : XH) (t n k : Nat) : xA (xNew h t n) (xN h) k = none := by
  show row0 _ _ _ _ _ = _
  simp [row0]
theorem xT_cp (h : XH) (a s b d n : Nat) : xT (xCpA h a s b d n) = xT h := rfl
theorem xN_cp (h : XH) (a s b d n : Nat) : xN (xCpA h a s b d n) = xN h := rfl
theorem xI_cp (h : XH) (a s b d n : Nat) : xI (xCpA h a s b d n) = xI h := rfl
theorem xS_cp (h : XH) (a s b d n : Nat) : xS (xCpA h a s b d n) = xS h := rfl
