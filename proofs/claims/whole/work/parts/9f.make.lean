/-! what the makers make -/
section MK2
variable {x z N : Nat} {zz : Nat × Nat} {h : XH}
abbrev RS := (Nat → Nat → Int32) × (Nat → Nat → Int64) × (Nat → Nat → Option (Option Nat)) × (Nat → Nat × Nat) × Nat × Nat
def rsI (S : RS) : Nat → Nat → Int32 := S.1
def rsJ (S : RS) : Nat → Nat → Int64 := S.2.1
def rsR (S : RS) : Nat → Nat → Option (Option Nat) := S.2.2.1
def rsT (S : RS) : Nat → Nat × Nat := S.2.2.2.1
def rsN (S : RS) : Nat := S.2.2.2.2.1
def rsS (S : RS) : Nat := S.2.2.2.2.2
def rel (x z : Nat) : Option (Option Nat) → Option Nat
  | none => none
  | some none => some z
  | some (some j) => some (x + j)
def hb (x z : Nat) (h : XH) (S : RS) : XH := (fun a k => if x ≤ a then rsI S (a - x) k else xI h a k, fun a k => if x ≤ a then rsJ S (a - x) k else xJ h a k, fun a k => if x ≤ a then rel x z (rsR S (a - x) k) else xA h a k, fun a => if x ≤ a then rsT S (a - x) else xT h a, x + rsN S, xS h + rsS S)
def rNew (S : RS) (t m : Nat) : RS := (row0 (rsI S) (rsN S) 0, row0 (rsJ S) (rsN S) 0, row0 (rsR S) (rsN S) none, fun b => if b = rsN S then (t, m) else rsT S b, rsN S + 1, rsS S + m)
def rSI (S : RS) (o k : Nat) (v : Int32) : RS := (up2 (rsI S) o k v, rsJ S, rsR S, rsT S, rsN S, rsS S)
def rSJ (S : RS) (o k : Nat) (v : Int64) : RS := (rsI S, up2 (rsJ S) o k v, rsR S, rsT S, rsN S, rsS S)
def rSA (S : RS) (o k : Nat) (v : Option (Option Nat)) : RS := (rsI S, rsJ S, up2 (rsR S) o k v, rsT S, rsN S, rsS S)
def rNew2 (S : RS) (n m : Nat) : RS := (fun b k => if rsN S ≤ b then 0 else rsI S b k, fun b k => if rsN S ≤ b then 0 else rsJ S b k, fun b k => if b = rsN S then (if k < n then some (some (rsN S + 1 + k)) else none) else if rsN S ≤ b then none else rsR S b k, fun b => if b = rsN S then (106, n) else if rsN S < b ∧ b ≤ rsN S + n then (100, m) else rsT S b, rsN S + 1 + n, rsS S + n + n * m)
theorem hb_N (S : RS) : xN (hb x z h S) = x + rsN S := rfl
theorem hb_T (S : RS) (o : Nat) : xT (hb x z h S) (x + o) = rsT S o := by
  show (if x ≤ x + o then rsT S (x + o - x) else _) = _
  rw [if_pos (by omega), Nat.add_sub_cancel_left]
theorem hb_A (S : RS) (o k : Nat) : xA (hb x z h S) (x + o) k = rel x z (rsR S o k) := by
  show (if x ≤ x + o then rel x z (rsR S (x + o - x) k) else _) = _
  rw [if_pos (by omega), Nat.add_sub_cancel_left]
theorem xh_e {a b : XH} (h1 : ∀ q k, xI a q k = xI b q k) (h2 : ∀ q k, xJ a q k = xJ b q k) (h3 : ∀ q k, xA a q k = xA b q k) (h4 : ∀ q, xT a q = xT b q) (h5 : xN a = xN b) (h6 : xS a = xS b) : a = b := by
  obtain ⟨a1, a2, a3, a4, a5, a6⟩ := a
  obtain ⟨b1, b2, b3, b4, b5, b6⟩ := b
  have e1 : a1 = b1 := funext fun q => funext fun k => h1 q k
  have e2 : a2 = b2 := funext fun q => funext fun k => h2 q k
  have e3 : a3 = b3 := funext fun q => funext fun k => h3 q k
  have e4 : a4 = b4 := funext fun q => h4 q
  have e5 : a5 = b5 := h5
  have e6 : a6 = b6 := h6
  rw [e1, e2, e3, e4, e5, e6]
theorem hb_new (S : RS) (t m : Nat) : xNew (hb x z h S) t m = hb x z h (rNew S t m) := by
  refine xh_e (fun q k => ?_) (fun q k => ?_) (fun q k => ?_) (fun q => ?_) rfl ?_
  · show (if q = x + rsN S then 0 else if x ≤ q then rsI S (q - x) k else xI h q k) = if x ≤ q then (if q - x = rsN S then 0 else rsI S (q - x) k) else xI h q k
    by_cases e : x ≤ q
    · rw [if_pos e, if_pos e]
      by_cases e2 : q = x + rsN S
      · rw [if_pos e2, if_pos (by omega)]
      · rw [if_neg e2, if_neg (by omega)]
    · rw [if_neg e, if_neg e, if_neg (by omega)]
  · show (if q = x + rsN S then 0 else if x ≤ q then rsJ S (q - x) k else xJ h q k) = if x ≤ q then (if q - x = rsN S then 0 else rsJ S (q - x) k) else xJ h q k
    by_cases e : x ≤ q
    · rw [if_pos e, if_pos e]
      by_cases e2 : q = x + rsN S
      · rw [if_pos e2, if_pos (by omega)]
      · rw [if_neg e2, if_neg (by omega)]
    · rw [if_neg e, if_neg e, if_neg (by omega)]
  · show (if q = x + rsN S then none else if x ≤ q then rel x z (rsR S (q - x) k) else xA h q k) = if x ≤ q then rel x z (if q - x = rsN S then none else rsR S (q - x) k) else xA h q k
    by_cases e : x ≤ q
    · rw [if_pos e, if_pos e]
      by_cases e2 : q = x + rsN S
      · rw [if_pos e2, if_pos (by omega)]; rfl
      · rw [if_neg e2, if_neg (by omega)]
    · rw [if_neg e, if_neg e, if_neg (by omega)]
  · show (if q = x + rsN S then (t, m) else if x ≤ q then rsT S (q - x) else xT h q) = if x ≤ q then (if q - x = rsN S then (t, m) else rsT S (q - x)) else xT h q
    by_cases e : x ≤ q
    · rw [if_pos e, if_pos e]
      by_cases e2 : q = x + rsN S
      · rw [if_pos e2, if_pos (by omega)]
      · rw [if_neg e2, if_neg (by omega)]
    · rw [if_neg e, if_neg e, if_neg (by omega)]
  · show xS h + rsS S + m = xS h + (rsS S + m)
    omega
theorem up2_x {α : Type} (f g : Nat → Nat → α) (x o k : Nat) (v : α) (q j : Nat) : up2 (fun a i => if x ≤ a then f (a - x) i else g a i) (x + o) k v q j = if x ≤ q then up2 f o k v (q - x) j else g q j := by
  unfold up2
  by_cases e : x ≤ q
  · rw [if_pos e]
    by_cases e2 : q = x + o ∧ j = k
    · rw [if_pos e2, if_pos (by omega)]
    · rw [if_neg e2, if_neg (by omega)]
      show (if x ≤ q then f (q - x) j else g q j) = _
      rw [if_pos e]
  · rw [if_neg e, if_neg (by omega)]
    show (if x ≤ q then f (q - x) j else g q j) = _
    rw [if_neg e]
theorem hb_sI (S : RS) (o k : Nat) (v : Int32) : sI (hb x z h S) (x + o) k v = hb x z h (rSI S o k v) :=
  xh_e (fun q j => up2_x (rsI S) (xI h) x o k v q j) (fun _ _ => rfl) (fun _ _ => rfl) (fun _ => rfl) rfl rfl
theorem hb_sJ (S : RS) (o k : Nat) (v : Int64) : sJ (hb x z h S) (x + o) k v = hb x z h (rSJ S o k v) :=
  xh_e (fun _ _ => rfl) (fun q j => up2_x (rsJ S) (xJ h) x o k v q j) (fun _ _ => rfl) (fun _ => rfl) rfl rfl
theorem up2_r (f : Nat → Nat → Option (Option Nat)) (x z o k : Nat) (v : Option (Option Nat)) (q j : Nat) : up2 (fun a i => rel x z (f a i)) o k (rel x z v) q j = rel x z (up2 f o k v q j) := by
  unfold up2
  split <;> rfl
theorem hb_sA (S : RS) (o k : Nat) (v : Option (Option Nat)) : sA (hb x z h S) (x + o) k (rel x z v) = hb x z h (rSA S o k v) :=
  xh_e (fun _ _ => rfl) (fun _ _ => rfl) (fun q j => (up2_x (fun a i => rel x z (rsR S a i)) (xA h) x o k (rel x z v) q j).trans (by
    show (if x ≤ q then up2 (fun a i => rel x z (rsR S a i)) o k (rel x z v) (q - x) j else xA h q j) = if x ≤ q then rel x z (up2 (rsR S) o k v (q - x) j) else xA h q j
    rw [up2_r])) (fun _ => rfl) rfl rfl
theorem hb_new2 (S : RS) (n m : Nat) : xNew2 (hb x z h S) n m = hb x z h (rNew2 S n m) := by
  refine xh_e (fun q k => ?_) (fun q k => ?_) (fun q k => ?_) (fun q => ?_) ?_ ?_
  · show (if x + rsN S ≤ q then 0 else if x ≤ q then rsI S (q - x) k else xI h q k) = if x ≤ q then (if rsN S ≤ q - x then 0 else rsI S (q - x) k) else xI h q k
    by_cases e : x ≤ q
    · rw [if_pos e, if_pos e]
      by_cases e2 : x + rsN S ≤ q
      · rw [if_pos e2, if_pos (by omega)]
      · rw [if_neg e2, if_neg (by omega)]
    · rw [if_neg e, if_neg e, if_neg (by omega)]
  · show (if x + rsN S ≤ q then 0 else if x ≤ q then rsJ S (q - x) k else xJ h q k) = if x ≤ q then (if rsN S ≤ q - x then 0 else rsJ S (q - x) k) else xJ h q k
    by_cases e : x ≤ q
    · rw [if_pos e, if_pos e]
      by_cases e2 : x + rsN S ≤ q
      · rw [if_pos e2, if_pos (by omega)]
      · rw [if_neg e2, if_neg (by omega)]
    · rw [if_neg e, if_neg e, if_neg (by omega)]
  · show (if q = x + rsN S then (if k < n then some (x + rsN S + 1 + k) else none) else if x + rsN S ≤ q then none else if x ≤ q then rel x z (rsR S (q - x) k) else xA h q k) = if x ≤ q then rel x z (if q - x = rsN S then (if k < n then some (some (rsN S + 1 + k)) else none) else if rsN S ≤ q - x then none else rsR S (q - x) k) else xA h q k
    by_cases e : x ≤ q
    · rw [if_pos e, if_pos e]
      by_cases e2 : q = x + rsN S
      · rw [if_pos e2, if_pos (show q - x = rsN S by omega)]
        by_cases e3 : k < n
        · rw [if_pos e3, if_pos e3]
          show some _ = some _
          congr 1
          omega
        · rw [if_neg e3, if_neg e3]; rfl
      · rw [if_neg e2, if_neg (show ¬ q - x = rsN S by omega)]
        by_cases e3 : x + rsN S ≤ q
        · rw [if_pos e3, if_pos (by omega)]; rfl
        · rw [if_neg e3, if_neg (by omega)]
    · rw [if_neg e, if_neg e, if_neg (by omega), if_neg (by omega)]
  · show (if q = x + rsN S then (106, n) else if x + rsN S < q ∧ q ≤ x + rsN S + n then (100, m) else if x ≤ q then rsT S (q - x) else xT h q) = if x ≤ q then (if q - x = rsN S then (106, n) else if rsN S < q - x ∧ q - x ≤ rsN S + n then (100, m) else rsT S (q - x)) else xT h q
    by_cases e : x ≤ q
    · rw [if_pos e, if_pos e]
      by_cases e2 : q = x + rsN S
      · rw [if_pos e2, if_pos (by omega)]
      · rw [if_neg e2, if_neg (show ¬ q - x = rsN S by omega)]
        by_cases e3 : x + rsN S < q ∧ q ≤ x + rsN S + n
        · rw [if_pos e3, if_pos (by omega)]
        · rw [if_neg e3, if_neg (by omega)]
    · rw [if_neg e, if_neg e, if_neg (by omega), if_neg (by omega)]
  · show x + rsN S + 1 + n = x + (rsN S + 1 + n)
    omega
  · show xS h + rsS S + n + n * m = xS h + (rsS S + n + n * m)
    omega
end MK2
