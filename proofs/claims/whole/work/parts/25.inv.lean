/-! what holds of class and reference between two calls -/
def q_own (M : Nat → Nat → Int32) (b : Nat) : Int32 := if M 10 b = 0 then 0 else if M 10 b = 1 ∨ M 10 b = 4 ∨ M 10 b = 5 then M 12 b else M 13 b
def CF (C M : Nat → Nat → Int32) (P Q : Nat → Nat → Int64) : Prop := (C 0 14 = M 0 12) ∧ (C 0 15 = M 0 0) ∧ (C 0 16 = M 0 2) ∧ (P 0 17 = Q 0 3) ∧ (P 0 18 = Q 0 4) ∧ (C 0 19 = M 0 59) ∧ (C 0 20 = M 0 60) ∧ (∀ f, f < 3 → C 42 f = M 29 f) ∧ (∀ f, f < 3 → C 43 f = M 30 f) ∧ (∀ f, f < 6 → C 44 f = M 1 f)
theorem CF.now {C M : Nat → Nat → Int32} {P Q : Nat → Nat → Int64} (hyp : CF C M P Q) : C 0 14 = M 0 12 := hyp.1
theorem CF.lf {C M : Nat → Nat → Int32} {P Q : Nat → Nat → Int64} (hyp : CF C M P Q) : C 0 15 = M 0 0 := hyp.2.1
theorem CF.la {C M : Nat → Nat → Int32} {P Q : Nat → Nat → Int64} (hyp : CF C M P Q) : C 0 16 = M 0 2 := hyp.2.2.1
theorem CF.up {C M : Nat → Nat → Int32} {P Q : Nat → Nat → Int64} (hyp : CF C M P Q) : P 0 17 = Q 0 3 := hyp.2.2.2.1
theorem CF.lo {C M : Nat → Nat → Int32} {P Q : Nat → Nat → Int64} (hyp : CF C M P Q) : P 0 18 = Q 0 4 := hyp.2.2.2.2.1
theorem CF.seen {C M : Nat → Nat → Int32} {P Q : Nat → Nat → Int64} (hyp : CF C M P Q) : C 0 19 = M 0 59 := hyp.2.2.2.2.2.1
theorem CF.stw {C M : Nat → Nat → Int32} {P Q : Nat → Nat → Int64} (hyp : CF C M P Q) : C 0 20 = M 0 60 := hyp.2.2.2.2.2.2.1
theorem CF.pc {C M : Nat → Nat → Int32} {P Q : Nat → Nat → Int64} (hyp : CF C M P Q) : ∀ f, f < 3 → C 42 f = M 29 f := hyp.2.2.2.2.2.2.2.1
theorem CF.fr {C M : Nat → Nat → Int32} {P Q : Nat → Nat → Int64} (hyp : CF C M P Q) : ∀ f, f < 3 → C 43 f = M 30 f := hyp.2.2.2.2.2.2.2.2.1
theorem CF.cm {C M : Nat → Nat → Int32} {P Q : Nat → Nat → Int64} (hyp : CF C M P Q) : ∀ f, f < 6 → C 44 f = M 1 f := hyp.2.2.2.2.2.2.2.2.2
def CR (C M : Nat → Nat → Int32) : Prop := (∀ r, r < 6 → C (45 + 2 * r) 0 = M 2 r) ∧ (∀ r i, r < 6 → i < 40 → C (46 + 2 * r) i = M 3 (40 * r + i)) ∧ (∀ t, t < 4 → C (45 + 2 * (6 + t)) 0 = M 5 t) ∧ (∀ t i, t < 4 → i < 40 → C (46 + 2 * (6 + t)) i = M 6 (40 * t + i)) ∧ (∀ r, r < 6 → M 2 r = -1 ∨ ∃ k, k ≤ 40 ∧ M 2 r = iN k) ∧ (∀ t, t < 4 → M 5 t = -1 ∨ ∃ k, k ≤ 40 ∧ M 5 t = iN k)
theorem CR.rs {C M : Nat → Nat → Int32} (hyp : CR C M) : ∀ r, r < 6 → C (45 + 2 * r) 0 = M 2 r := hyp.1
theorem CR.rp {C M : Nat → Nat → Int32} (hyp : CR C M) : ∀ r i, r < 6 → i < 40 → C (46 + 2 * r) i = M 3 (40 * r + i) := hyp.2.1
theorem CR.ts {C M : Nat → Nat → Int32} (hyp : CR C M) : ∀ t, t < 4 → C (45 + 2 * (6 + t)) 0 = M 5 t := hyp.2.2.1
theorem CR.tp {C M : Nat → Nat → Int32} (hyp : CR C M) : ∀ t i, t < 4 → i < 40 → C (46 + 2 * (6 + t)) i = M 6 (40 * t + i) := hyp.2.2.2.1
theorem CR.rz {C M : Nat → Nat → Int32} (hyp : CR C M) : ∀ r, r < 6 → M 2 r = -1 ∨ ∃ k, k ≤ 40 ∧ M 2 r = iN k := hyp.2.2.2.2.1
theorem CR.tz {C M : Nat → Nat → Int32} (hyp : CR C M) : ∀ t, t < 4 → M 5 t = -1 ∨ ∃ k, k ≤ 40 ∧ M 5 t = iN k := hyp.2.2.2.2.2
def CN (C M : Nat → Nat → Int32) (n : Nat → Nat) : Prop := (C 3 2 = iN (n 0)) ∧ (M 0 13 = iN (n 0)) ∧ (n 0 ≤ 24) ∧ (C 4 2 = iN (n 1)) ∧ (M 0 32 = iN (n 1)) ∧ (n 1 ≤ 24) ∧ (C 5 2 = iN (n 2)) ∧ (M 0 27 = iN (n 2)) ∧ (n 2 ≤ 16) ∧ (C 6 2 = iN (n 3)) ∧ (M 0 41 = iN (n 3)) ∧ (n 3 ≤ 40) ∧ (C 7 2 = iN (n 4)) ∧ (M 0 22 = iN (n 4)) ∧ (n 4 ≤ 60) ∧ (C 8 2 = iN (n 5)) ∧ (M 0 64 = iN (n 5)) ∧ (n 5 ≤ 12) ∧ (C 10 2 = iN (n 6)) ∧ (M 0 49 = iN (n 6)) ∧ (n 6 ≤ 20) ∧ (n 7 = n 2)
theorem CN.c0 {C M : Nat → Nat → Int32} {n : Nat → Nat} (hyp : CN C M n) : C 3 2 = iN (n 0) := hyp.1
theorem CN.m0 {C M : Nat → Nat → Int32} {n : Nat → Nat} (hyp : CN C M n) : M 0 13 = iN (n 0) := hyp.2.1
theorem CN.b0 {C M : Nat → Nat → Int32} {n : Nat → Nat} (hyp : CN C M n) : n 0 ≤ 24 := hyp.2.2.1
theorem CN.c1 {C M : Nat → Nat → Int32} {n : Nat → Nat} (hyp : CN C M n) : C 4 2 = iN (n 1) := hyp.2.2.2.1
theorem CN.m1 {C M : Nat → Nat → Int32} {n : Nat → Nat} (hyp : CN C M n) : M 0 32 = iN (n 1) := hyp.2.2.2.2.1
theorem CN.b1 {C M : Nat → Nat → Int32} {n : Nat → Nat} (hyp : CN C M n) : n 1 ≤ 24 := hyp.2.2.2.2.2.1
theorem CN.c2 {C M : Nat → Nat → Int32} {n : Nat → Nat} (hyp : CN C M n) : C 5 2 = iN (n 2) := hyp.2.2.2.2.2.2.1
theorem CN.m2 {C M : Nat → Nat → Int32} {n : Nat → Nat} (hyp : CN C M n) : M 0 27 = iN (n 2) := hyp.2.2.2.2.2.2.2.1
theorem CN.b2 {C M : Nat → Nat → Int32} {n : Nat → Nat} (hyp : CN C M n) : n 2 ≤ 16 := hyp.2.2.2.2.2.2.2.2.1
theorem CN.c3 {C M : Nat → Nat → Int32} {n : Nat → Nat} (hyp : CN C M n) : C 6 2 = iN (n 3) := hyp.2.2.2.2.2.2.2.2.2.1
theorem CN.m3 {C M : Nat → Nat → Int32} {n : Nat → Nat} (hyp : CN C M n) : M 0 41 = iN (n 3) := hyp.2.2.2.2.2.2.2.2.2.2.1
theorem CN.b3 {C M : Nat → Nat → Int32} {n : Nat → Nat} (hyp : CN C M n) : n 3 ≤ 40 := hyp.2.2.2.2.2.2.2.2.2.2.2.1
theorem CN.c4 {C M : Nat → Nat → Int32} {n : Nat → Nat} (hyp : CN C M n) : C 7 2 = iN (n 4) := hyp.2.2.2.2.2.2.2.2.2.2.2.2.1
theorem CN.m4 {C M : Nat → Nat → Int32} {n : Nat → Nat} (hyp : CN C M n) : M 0 22 = iN (n 4) := hyp.2.2.2.2.2.2.2.2.2.2.2.2.2.1
theorem CN.b4 {C M : Nat → Nat → Int32} {n : Nat → Nat} (hyp : CN C M n) : n 4 ≤ 60 := hyp.2.2.2.2.2.2.2.2.2.2.2.2.2.2.1
theorem CN.c5 {C M : Nat → Nat → Int32} {n : Nat → Nat} (hyp : CN C M n) : C 8 2 = iN (n 5) := hyp.2.2.2.2.2.2.2.2.2.2.2.2.2.2.2.1
theorem CN.m5 {C M : Nat → Nat → Int32} {n : Nat → Nat} (hyp : CN C M n) : M 0 64 = iN (n 5) := hyp.2.2.2.2.2.2.2.2.2.2.2.2.2.2.2.2.1
theorem CN.b5 {C M : Nat → Nat → Int32} {n : Nat → Nat} (hyp : CN C M n) : n 5 ≤ 12 := hyp.2.2.2.2.2.2.2.2.2.2.2.2.2.2.2.2.2.1
theorem CN.c6 {C M : Nat → Nat → Int32} {n : Nat → Nat} (hyp : CN C M n) : C 10 2 = iN (n 6) := hyp.2.2.2.2.2.2.2.2.2.2.2.2.2.2.2.2.2.2.1
theorem CN.m6 {C M : Nat → Nat → Int32} {n : Nat → Nat} (hyp : CN C M n) : M 0 49 = iN (n 6) := hyp.2.2.2.2.2.2.2.2.2.2.2.2.2.2.2.2.2.2.2.1
theorem CN.b6 {C M : Nat → Nat → Int32} {n : Nat → Nat} (hyp : CN C M n) : n 6 ≤ 20 := hyp.2.2.2.2.2.2.2.2.2.2.2.2.2.2.2.2.2.2.2.2.1
theorem CN.e7 {C M : Nat → Nat → Int32} {n : Nat → Nat} (hyp : CN C M n) : n 7 = n 2 := hyp.2.2.2.2.2.2.2.2.2.2.2.2.2.2.2.2.2.2.2.2.2
def BkR (h : XH) (A : Nat → Nat → Nat) (M : Nat → Nat → Int32) (b : Nat) : Prop := (xI h (A 0 b) 0 = iN b) ∧ (xI h (A 0 b) 1 = M 7 b) ∧ (xI h (A 0 b) 2 = M 8 b) ∧ (xI h (A 0 b) 3 = M 9 b) ∧ (xI h (A 0 b) 4 = M 10 b) ∧ (xI h (A 0 b) 5 = M 11 b) ∧ (xI h (A 0 b) 6 = q_own M b) ∧ (q_had M b = true → xI h (A 0 b) 7 = M 12 b) ∧ (M 10 b = 5 → xI h (A 0 b) 8 = M 13 b)
theorem BkR.k0 {h : XH} {A : Nat → Nat → Nat} {M : Nat → Nat → Int32} {b : Nat} (hyp : BkR h A M b) : xI h (A 0 b) 0 = iN b := hyp.1
theorem BkR.k1 {h : XH} {A : Nat → Nat → Nat} {M : Nat → Nat → Int32} {b : Nat} (hyp : BkR h A M b) : xI h (A 0 b) 1 = M 7 b := hyp.2.1
theorem BkR.k2 {h : XH} {A : Nat → Nat → Nat} {M : Nat → Nat → Int32} {b : Nat} (hyp : BkR h A M b) : xI h (A 0 b) 2 = M 8 b := hyp.2.2.1
theorem BkR.k3 {h : XH} {A : Nat → Nat → Nat} {M : Nat → Nat → Int32} {b : Nat} (hyp : BkR h A M b) : xI h (A 0 b) 3 = M 9 b := hyp.2.2.2.1
theorem BkR.k4 {h : XH} {A : Nat → Nat → Nat} {M : Nat → Nat → Int32} {b : Nat} (hyp : BkR h A M b) : xI h (A 0 b) 4 = M 10 b := hyp.2.2.2.2.1
theorem BkR.k5 {h : XH} {A : Nat → Nat → Nat} {M : Nat → Nat → Int32} {b : Nat} (hyp : BkR h A M b) : xI h (A 0 b) 5 = M 11 b := hyp.2.2.2.2.2.1
theorem BkR.k6 {h : XH} {A : Nat → Nat → Nat} {M : Nat → Nat → Int32} {b : Nat} (hyp : BkR h A M b) : xI h (A 0 b) 6 = q_own M b := hyp.2.2.2.2.2.2.1
theorem BkR.k7 {h : XH} {A : Nat → Nat → Nat} {M : Nat → Nat → Int32} {b : Nat} (hyp : BkR h A M b) : q_had M b = true → xI h (A 0 b) 7 = M 12 b := hyp.2.2.2.2.2.2.2.1
theorem BkR.k8 {h : XH} {A : Nat → Nat → Nat} {M : Nat → Nat → Int32} {b : Nat} (hyp : BkR h A M b) : M 10 b = 5 → xI h (A 0 b) 8 = M 13 b := hyp.2.2.2.2.2.2.2.2
def GoR (h : XH) (A : Nat → Nat → Nat) (M : Nat → Nat → Int32) (n : Nat → Nat) (b : Nat) : Prop := (M 10 b = 5 → ∃ s, s < n 1 ∧ M 14 b = iN s ∧ xA h (A 0 b) 9 = some (A 1 s)) ∧ ((∃ k, k < n 4 ∧ xA h (A 0 b) 10 = some (A 4 k) ∧ M 15 k = iN b ∧ M 18 k = -9 ∧ ∀ k2, k2 < n 4 → M 15 k2 = iN b → M 18 k2 = -9 → k2 = k) ∨ (xA h (A 0 b) 10 = none ∧ ∀ k2, k2 < n 4 → M 15 k2 = iN b → M 18 k2 ≠ -9)) ∧ (q_had M b = false → xA h (A 0 b) 10 = none)
theorem GoR.g {h : XH} {A : Nat → Nat → Nat} {M : Nat → Nat → Int32} {n : Nat → Nat} {b : Nat} (hyp : GoR h A M n b) : M 10 b = 5 → ∃ s, s < n 1 ∧ M 14 b = iN s ∧ xA h (A 0 b) 9 = some (A 1 s) := hyp.1
theorem GoR.d {h : XH} {A : Nat → Nat → Nat} {M : Nat → Nat → Int32} {n : Nat → Nat} {b : Nat} (hyp : GoR h A M n b) : (∃ k, k < n 4 ∧ xA h (A 0 b) 10 = some (A 4 k) ∧ M 15 k = iN b ∧ M 18 k = -9 ∧ ∀ k2, k2 < n 4 → M 15 k2 = iN b → M 18 k2 = -9 → k2 = k) ∨ (xA h (A 0 b) 10 = none ∧ ∀ k2, k2 < n 4 → M 15 k2 = iN b → M 18 k2 ≠ -9) := hyp.2.1
theorem GoR.e {h : XH} {A : Nat → Nat → Nat} {M : Nat → Nat → Int32} {n : Nat → Nat} {b : Nat} (hyp : GoR h A M n b) : q_had M b = false → xA h (A 0 b) 10 = none := hyp.2.2
def SlR (h : XH) (A : Nat → Nat → Nat) (M : Nat → Nat → Int32) (n : Nat → Nat) (s : Nat) : Prop := (xI h (A 1 s) 0 = M 24 s) ∧ (xI h (A 1 s) 2 = M 26 s) ∧ (xI h (A 1 s) 3 = M 28 s) ∧ (xI h (A 1 s) 4 = M 23 s) ∧ (xI h (A 1 s) 5 = M 27 s) ∧ (∃ b, b < n 0 ∧ M 25 s = iN b ∧ xA h (A 1 s) 1 = some (A 0 b))
theorem SlR.k0 {h : XH} {A : Nat → Nat → Nat} {M : Nat → Nat → Int32} {n : Nat → Nat} {s : Nat} (hyp : SlR h A M n s) : xI h (A 1 s) 0 = M 24 s := hyp.1
theorem SlR.k2 {h : XH} {A : Nat → Nat → Nat} {M : Nat → Nat → Int32} {n : Nat → Nat} {s : Nat} (hyp : SlR h A M n s) : xI h (A 1 s) 2 = M 26 s := hyp.2.1
theorem SlR.k3 {h : XH} {A : Nat → Nat → Nat} {M : Nat → Nat → Int32} {n : Nat → Nat} {s : Nat} (hyp : SlR h A M n s) : xI h (A 1 s) 3 = M 28 s := hyp.2.2.1
theorem SlR.k4 {h : XH} {A : Nat → Nat → Nat} {M : Nat → Nat → Int32} {n : Nat → Nat} {s : Nat} (hyp : SlR h A M n s) : xI h (A 1 s) 4 = M 23 s := hyp.2.2.2.1
theorem SlR.k5 {h : XH} {A : Nat → Nat → Nat} {M : Nat → Nat → Int32} {n : Nat → Nat} {s : Nat} (hyp : SlR h A M n s) : xI h (A 1 s) 5 = M 27 s := hyp.2.2.2.2.1
theorem SlR.b {h : XH} {A : Nat → Nat → Nat} {M : Nat → Nat → Int32} {n : Nat → Nat} {s : Nat} (hyp : SlR h A M n s) : ∃ b, b < n 0 ∧ M 25 s = iN b ∧ xA h (A 1 s) 1 = some (A 0 b) := hyp.2.2.2.2.2
def RuR (h : XH) (A : Nat → Nat → Nat) (M : Nat → Nat → Int32) (r : Nat) : Prop := (xI h (A 2 r) 0 = M 19 r) ∧ (xI h (A 2 r) 1 = M 20 r) ∧ (xA h (A 2 r) 2 = some (A 7 r)) ∧ (∀ k, k < 4 → (M 21 (4 * r + k) = -9 ∧ xI h (A 7 r) k = -1) ∨ ∃ v, v ≤ 99 ∧ M 21 (4 * r + k) = iN v ∧ xI h (A 7 r) k = iN v) ∧ (∃ d, d ≤ 69 ∧ M 20 r = iN d)
theorem RuR.k0 {h : XH} {A : Nat → Nat → Nat} {M : Nat → Nat → Int32} {r : Nat} (hyp : RuR h A M r) : xI h (A 2 r) 0 = M 19 r := hyp.1
theorem RuR.k1 {h : XH} {A : Nat → Nat → Nat} {M : Nat → Nat → Int32} {r : Nat} (hyp : RuR h A M r) : xI h (A 2 r) 1 = M 20 r := hyp.2.1
theorem RuR.k2 {h : XH} {A : Nat → Nat → Nat} {M : Nat → Nat → Int32} {r : Nat} (hyp : RuR h A M r) : xA h (A 2 r) 2 = some (A 7 r) := hyp.2.2.1
theorem RuR.w {h : XH} {A : Nat → Nat → Nat} {M : Nat → Nat → Int32} {r : Nat} (hyp : RuR h A M r) : ∀ k, k < 4 → (M 21 (4 * r + k) = -9 ∧ xI h (A 7 r) k = -1) ∨ ∃ v, v ≤ 99 ∧ M 21 (4 * r + k) = iN v ∧ xI h (A 7 r) k = iN v := hyp.2.2.2.1
theorem RuR.f {h : XH} {A : Nat → Nat → Nat} {M : Nat → Nat → Int32} {r : Nat} (hyp : RuR h A M r) : ∃ d, d ≤ 69 ∧ M 20 r = iN d := hyp.2.2.2.2
def LkR (h : XH) (A : Nat → Nat → Nat) (M : Nat → Nat → Int32) (k : Nat) : Prop := (xI h (A 3 k) 0 = M 31 k) ∧ (xI h (A 3 k) 1 = M 32 k) ∧ (xI h (A 3 k) 2 = M 33 k) ∧ (M 33 k = 0 ∨ M 33 k = 1)
theorem LkR.k0 {h : XH} {A : Nat → Nat → Nat} {M : Nat → Nat → Int32} {k : Nat} (hyp : LkR h A M k) : xI h (A 3 k) 0 = M 31 k := hyp.1
theorem LkR.k1 {h : XH} {A : Nat → Nat → Nat} {M : Nat → Nat → Int32} {k : Nat} (hyp : LkR h A M k) : xI h (A 3 k) 1 = M 32 k := hyp.2.1
theorem LkR.k2 {h : XH} {A : Nat → Nat → Nat} {M : Nat → Nat → Int32} {k : Nat} (hyp : LkR h A M k) : xI h (A 3 k) 2 = M 33 k := hyp.2.2.1
theorem LkR.p {h : XH} {A : Nat → Nat → Nat} {M : Nat → Nat → Int32} {k : Nat} (hyp : LkR h A M k) : M 33 k = 0 ∨ M 33 k = 1 := hyp.2.2.2
def HaR (h : XH) (A : Nat → Nat → Nat) (M : Nat → Nat → Int32) (n : Nat → Nat) (k : Nat) : Prop := (xI h (A 4 k) 0 = M 15 k) ∧ (xI h (A 4 k) 1 = M 16 k) ∧ (xI h (A 4 k) 2 = M 17 k) ∧ (xI h (A 4 k) 3 = M 18 k) ∧ (∃ r, r < 8 ∧ M 16 k = iN r) ∧ (∃ b, b < n 0 ∧ M 15 k = iN b)
theorem HaR.k0 {h : XH} {A : Nat → Nat → Nat} {M : Nat → Nat → Int32} {n : Nat → Nat} {k : Nat} (hyp : HaR h A M n k) : xI h (A 4 k) 0 = M 15 k := hyp.1
theorem HaR.k1 {h : XH} {A : Nat → Nat → Nat} {M : Nat → Nat → Int32} {n : Nat → Nat} {k : Nat} (hyp : HaR h A M n k) : xI h (A 4 k) 1 = M 16 k := hyp.2.1
theorem HaR.k2 {h : XH} {A : Nat → Nat → Nat} {M : Nat → Nat → Int32} {n : Nat → Nat} {k : Nat} (hyp : HaR h A M n k) : xI h (A 4 k) 2 = M 17 k := hyp.2.2.1
theorem HaR.k3 {h : XH} {A : Nat → Nat → Nat} {M : Nat → Nat → Int32} {n : Nat → Nat} {k : Nat} (hyp : HaR h A M n k) : xI h (A 4 k) 3 = M 18 k := hyp.2.2.2.1
theorem HaR.r {h : XH} {A : Nat → Nat → Nat} {M : Nat → Nat → Int32} {n : Nat → Nat} {k : Nat} (hyp : HaR h A M n k) : ∃ r, r < 8 ∧ M 16 k = iN r := hyp.2.2.2.2.1
theorem HaR.b {h : XH} {A : Nat → Nat → Nat} {M : Nat → Nat → Int32} {n : Nat → Nat} {k : Nat} (hyp : HaR h A M n k) : ∃ b, b < n 0 ∧ M 15 k = iN b := hyp.2.2.2.2.2
def EyR (h : XH) (A : Nat → Nat → Nat) (M : Nat → Nat → Int32) (k : Nat) : Prop := (xI h (A 5 k) 0 = M 48 k) ∧ (xI h (A 5 k) 1 = M 49 k)
theorem EyR.k0 {h : XH} {A : Nat → Nat → Nat} {M : Nat → Nat → Int32} {k : Nat} (hyp : EyR h A M k) : xI h (A 5 k) 0 = M 48 k := hyp.1
theorem EyR.k1 {h : XH} {A : Nat → Nat → Nat} {M : Nat → Nat → Int32} {k : Nat} (hyp : EyR h A M k) : xI h (A 5 k) 1 = M 49 k := hyp.2
def LnR (h : XH) (A : Nat → Nat → Nat) (M : Nat → Nat → Int32) (k : Nat) : Prop := (xI h (A 6 k) 0 = M 37 k) ∧ (xI h (A 6 k) 1 = M 38 k) ∧ (xI h (A 6 k) 2 = M 39 k) ∧ (xI h (A 6 k) 3 = M 40 k) ∧ (xI h (A 6 k) 4 = M 41 k) ∧ (xI h (A 6 k) 5 = M 42 k) ∧ (xI h (A 6 k) 6 = M 43 k) ∧ (∃ a, a < 3 ∧ M 37 k = iN a) ∧ (∃ a b, a ≤ b ∧ b ≤ 9999 ∧ M 38 k = iN a ∧ M 39 k = iN b) ∧ (-9999 ≤ (M 40 k).toInt ∧ (M 40 k).toInt ≤ 9999) ∧ (∃ t, t ≤ 99999 ∧ M 42 k = iN t) ∧ (M 43 k = -9 ∨ ∃ t, t ≤ 99999 ∧ M 43 k = iN t)
theorem LnR.k0 {h : XH} {A : Nat → Nat → Nat} {M : Nat → Nat → Int32} {k : Nat} (hyp : LnR h A M k) : xI h (A 6 k) 0 = M 37 k := hyp.1
theorem LnR.k1 {h : XH} {A : Nat → Nat → Nat} {M : Nat → Nat → Int32} {k : Nat} (hyp : LnR h A M k) : xI h (A 6 k) 1 = M 38 k := hyp.2.1
theorem LnR.k2 {h : XH} {A : Nat → Nat → Nat} {M : Nat → Nat → Int32} {k : Nat} (hyp : LnR h A M k) : xI h (A 6 k) 2 = M 39 k := hyp.2.2.1
theorem LnR.k3 {h : XH} {A : Nat → Nat → Nat} {M : Nat → Nat → Int32} {k : Nat} (hyp : LnR h A M k) : xI h (A 6 k) 3 = M 40 k := hyp.2.2.2.1
theorem LnR.k4 {h : XH} {A : Nat → Nat → Nat} {M : Nat → Nat → Int32} {k : Nat} (hyp : LnR h A M k) : xI h (A 6 k) 4 = M 41 k := hyp.2.2.2.2.1
theorem LnR.k5 {h : XH} {A : Nat → Nat → Nat} {M : Nat → Nat → Int32} {k : Nat} (hyp : LnR h A M k) : xI h (A 6 k) 5 = M 42 k := hyp.2.2.2.2.2.1
theorem LnR.k6 {h : XH} {A : Nat → Nat → Nat} {M : Nat → Nat → Int32} {k : Nat} (hyp : LnR h A M k) : xI h (A 6 k) 6 = M 43 k := hyp.2.2.2.2.2.2.1
theorem LnR.a {h : XH} {A : Nat → Nat → Nat} {M : Nat → Nat → Int32} {k : Nat} (hyp : LnR h A M k) : ∃ a, a < 3 ∧ M 37 k = iN a := hyp.2.2.2.2.2.2.2.1
theorem LnR.f {h : XH} {A : Nat → Nat → Nat} {M : Nat → Nat → Int32} {k : Nat} (hyp : LnR h A M k) : ∃ a b, a ≤ b ∧ b ≤ 9999 ∧ M 38 k = iN a ∧ M 39 k = iN b := hyp.2.2.2.2.2.2.2.2.1
theorem LnR.s {h : XH} {A : Nat → Nat → Nat} {M : Nat → Nat → Int32} {k : Nat} (hyp : LnR h A M k) : -9999 ≤ (M 40 k).toInt ∧ (M 40 k).toInt ≤ 9999 := hyp.2.2.2.2.2.2.2.2.2.1
theorem LnR.t {h : XH} {A : Nat → Nat → Nat} {M : Nat → Nat → Int32} {k : Nat} (hyp : LnR h A M k) : ∃ t, t ≤ 99999 ∧ M 42 k = iN t := hyp.2.2.2.2.2.2.2.2.2.2.1
theorem LnR.g {h : XH} {A : Nat → Nat → Nat} {M : Nat → Nat → Int32} {k : Nat} (hyp : LnR h A M k) : M 43 k = -9 ∨ ∃ t, t ≤ 99999 ∧ M 43 k = iN t := hyp.2.2.2.2.2.2.2.2.2.2.2
def CV (C M : Nat → Nat → Int32) : Prop := (∃ q, q ≤ 12 ∧ M 0 62 = iN q ∧ C 21 0 = iN q ∧ ∀ i, i < q → C 22 i = M 47 i)
theorem CV.q {C M : Nat → Nat → Int32} (hyp : CV C M) : ∃ q, q ≤ 12 ∧ M 0 62 = iN q ∧ C 21 0 = iN q ∧ ∀ i, i < q → C 22 i = M 47 i := hyp
def CX (x : Nat) (h : XH) : Prop := ((xA h (x + 9) 2 = some (x + 11) ∧ xA h (x + 9) 3 = some (x + 12)) ∨ (xA h (x + 9) 2 = some (x + 12) ∧ xA h (x + 9) 3 = some (x + 11)))
theorem CX.p {x : Nat} {h : XH} (hyp : CX x h) : (xA h (x + 9) 2 = some (x + 11) ∧ xA h (x + 9) 3 = some (x + 12)) ∨ (xA h (x + 9) 2 = some (x + 12) ∧ xA h (x + 9) 3 = some (x + 11)) := hyp
def BkM (M : Nat → Nat → Int32) (b : Nat) : Prop := (∃ k, k ≤ 9999 ∧ M 7 b = iN k) ∧ (∃ s, s < 8 ∧ M 8 b = iN s) ∧ (M 9 b = 0 ∨ M 9 b = 1) ∧ (∃ k, k < 7 ∧ M 10 b = iN k) ∧ (M 10 b = 0 → M 11 b = 0) ∧ (M 10 b = 1 ∨ M 10 b = 2 ∨ M 10 b = 5 → M 11 b = 1)
theorem BkM.m {M : Nat → Nat → Int32} {b : Nat} (hyp : BkM M b) : ∃ k, k ≤ 9999 ∧ M 7 b = iN k := hyp.1
theorem BkM.s {M : Nat → Nat → Int32} {b : Nat} (hyp : BkM M b) : ∃ s, s < 8 ∧ M 8 b = iN s := hyp.2.1
theorem BkM.r {M : Nat → Nat → Int32} {b : Nat} (hyp : BkM M b) : M 9 b = 0 ∨ M 9 b = 1 := hyp.2.2.1
theorem BkM.k {M : Nat → Nat → Int32} {b : Nat} (hyp : BkM M b) : ∃ k, k < 7 ∧ M 10 b = iN k := hyp.2.2.2.1
theorem BkM.z {M : Nat → Nat → Int32} {b : Nat} (hyp : BkM M b) : M 10 b = 0 → M 11 b = 0 := hyp.2.2.2.2.1
theorem BkM.o {M : Nat → Nat → Int32} {b : Nat} (hyp : BkM M b) : M 10 b = 1 ∨ M 10 b = 2 ∨ M 10 b = 5 → M 11 b = 1 := hyp.2.2.2.2.2
def SlM (M : Nat → Nat → Int32) (s : Nat) : Prop := (∃ r, r < 8 ∧ M 24 s = iN r) ∧ (∃ t, t ≤ 99999 ∧ M 26 s = iN t) ∧ (∃ k, k < 4 ∧ M 23 s = iN k)
theorem SlM.r {M : Nat → Nat → Int32} {s : Nat} (hyp : SlM M s) : ∃ r, r < 8 ∧ M 24 s = iN r := hyp.1
theorem SlM.t {M : Nat → Nat → Int32} {s : Nat} (hyp : SlM M s) : ∃ t, t ≤ 99999 ∧ M 26 s = iN t := hyp.2.1
theorem SlM.h {M : Nat → Nat → Int32} {s : Nat} (hyp : SlM M s) : ∃ k, k < 4 ∧ M 23 s = iN k := hyp.2.2
def Ok (M : Nat → Nat → Int32) (n : Nat → Nat) (c : Nat) : Prop := (∃ t, t ≤ 99999 ∧ M 0 12 = iN t) ∧ (∀ b, b < n 0 → BkM M b) ∧ (∀ b b2, b < n 0 → b2 < n 0 → M 7 b = M 7 b2 → b = b2) ∧ (∀ b, n 0 ≤ b → b < 24 → M 10 b = 0 ∧ M 11 b = 0) ∧ (∀ s, s < n 1 → SlM M s) ∧ (∀ f, f < 3 → ∃ v, 1 ≤ v ∧ v ≤ 9 ∧ M 29 f = iN v) ∧ (∀ f, f < 3 → ∃ t, t ≤ 99999 ∧ M 30 f = iN t) ∧ (∃ s w, M 0 59 = iN s ∧ M 0 60 = iN w ∧ w ≤ s ∧ s ≤ 24 * c)
theorem Ok.now {M : Nat → Nat → Int32} {n : Nat → Nat} {c : Nat} (hyp : Ok M n c) : ∃ t, t ≤ 99999 ∧ M 0 12 = iN t := hyp.1
theorem Ok.bk {M : Nat → Nat → Int32} {n : Nat → Nat} {c : Nat} (hyp : Ok M n c) : ∀ b, b < n 0 → BkM M b := hyp.2.1
theorem Ok.dis {M : Nat → Nat → Int32} {n : Nat → Nat} {c : Nat} (hyp : Ok M n c) : ∀ b b2, b < n 0 → b2 < n 0 → M 7 b = M 7 b2 → b = b2 := hyp.2.2.1
theorem Ok.new {M : Nat → Nat → Int32} {n : Nat → Nat} {c : Nat} (hyp : Ok M n c) : ∀ b, n 0 ≤ b → b < 24 → M 10 b = 0 ∧ M 11 b = 0 := hyp.2.2.2.1
theorem Ok.sl {M : Nat → Nat → Int32} {n : Nat → Nat} {c : Nat} (hyp : Ok M n c) : ∀ s, s < n 1 → SlM M s := hyp.2.2.2.2.1
theorem Ok.pc {M : Nat → Nat → Int32} {n : Nat → Nat} {c : Nat} (hyp : Ok M n c) : ∀ f, f < 3 → ∃ v, 1 ≤ v ∧ v ≤ 9 ∧ M 29 f = iN v := hyp.2.2.2.2.2.1
theorem Ok.fr {M : Nat → Nat → Int32} {n : Nat → Nat} {c : Nat} (hyp : Ok M n c) : ∀ f, f < 3 → ∃ t, t ≤ 99999 ∧ M 30 f = iN t := hyp.2.2.2.2.2.2.1
theorem Ok.wr {M : Nat → Nat → Int32} {n : Nat → Nat} {c : Nat} (hyp : Ok M n c) : ∃ s w, M 0 59 = iN s ∧ M 0 60 = iN w ∧ w ≤ s ∧ s ≤ 24 * c := hyp.2.2.2.2.2.2.2
def Inv (x : Nat) (z : Nat × Nat) (A : Nat → Nat → Nat) (h : XH) (C M : Nat → Nat → Int32) (P Q : Nat → Nat → Int64) (n : Nat → Nat) (c : Nat) : Prop := (Shp x h) ∧ (Dy x z A h n n) ∧ (CF C M P Q) ∧ (CR C M) ∧ (CN C M n) ∧ (∀ b, b < n 0 → BkR h A M b) ∧ (∀ b, b < n 0 → GoR h A M n b) ∧ (∀ s, s < n 1 → SlR h A M n s) ∧ (∀ r, r < n 2 → RuR h A M r) ∧ (∀ k, k < n 3 → LkR h A M k) ∧ (∀ k, k < n 4 → HaR h A M n k) ∧ (∀ k, k < n 5 → EyR h A M k) ∧ (∀ k, k < n 6 → LnR h A M k) ∧ (CV C M) ∧ (CX x h) ∧ (Ok M n c)
theorem Inv.sh {x : Nat} {z : Nat × Nat} {A : Nat → Nat → Nat} {h : XH} {C M : Nat → Nat → Int32} {P Q : Nat → Nat → Int64} {n : Nat → Nat} {c : Nat} (hyp : Inv x z A h C M P Q n c) : Shp x h := hyp.1
theorem Inv.dy {x : Nat} {z : Nat × Nat} {A : Nat → Nat → Nat} {h : XH} {C M : Nat → Nat → Int32} {P Q : Nat → Nat → Int64} {n : Nat → Nat} {c : Nat} (hyp : Inv x z A h C M P Q n c) : Dy x z A h n n := hyp.2.1
theorem Inv.cf {x : Nat} {z : Nat × Nat} {A : Nat → Nat → Nat} {h : XH} {C M : Nat → Nat → Int32} {P Q : Nat → Nat → Int64} {n : Nat → Nat} {c : Nat} (hyp : Inv x z A h C M P Q n c) : CF C M P Q := hyp.2.2.1
theorem Inv.cr {x : Nat} {z : Nat × Nat} {A : Nat → Nat → Nat} {h : XH} {C M : Nat → Nat → Int32} {P Q : Nat → Nat → Int64} {n : Nat → Nat} {c : Nat} (hyp : Inv x z A h C M P Q n c) : CR C M := hyp.2.2.2.1
theorem Inv.cn {x : Nat} {z : Nat × Nat} {A : Nat → Nat → Nat} {h : XH} {C M : Nat → Nat → Int32} {P Q : Nat → Nat → Int64} {n : Nat → Nat} {c : Nat} (hyp : Inv x z A h C M P Q n c) : CN C M n := hyp.2.2.2.2.1
theorem Inv.bk {x : Nat} {z : Nat × Nat} {A : Nat → Nat → Nat} {h : XH} {C M : Nat → Nat → Int32} {P Q : Nat → Nat → Int64} {n : Nat → Nat} {c : Nat} (hyp : Inv x z A h C M P Q n c) : ∀ b, b < n 0 → BkR h A M b := hyp.2.2.2.2.2.1
theorem Inv.gr {x : Nat} {z : Nat × Nat} {A : Nat → Nat → Nat} {h : XH} {C M : Nat → Nat → Int32} {P Q : Nat → Nat → Int64} {n : Nat → Nat} {c : Nat} (hyp : Inv x z A h C M P Q n c) : ∀ b, b < n 0 → GoR h A M n b := hyp.2.2.2.2.2.2.1
theorem Inv.sl {x : Nat} {z : Nat × Nat} {A : Nat → Nat → Nat} {h : XH} {C M : Nat → Nat → Int32} {P Q : Nat → Nat → Int64} {n : Nat → Nat} {c : Nat} (hyp : Inv x z A h C M P Q n c) : ∀ s, s < n 1 → SlR h A M n s := hyp.2.2.2.2.2.2.2.1
theorem Inv.ru {x : Nat} {z : Nat × Nat} {A : Nat → Nat → Nat} {h : XH} {C M : Nat → Nat → Int32} {P Q : Nat → Nat → Int64} {n : Nat → Nat} {c : Nat} (hyp : Inv x z A h C M P Q n c) : ∀ r, r < n 2 → RuR h A M r := hyp.2.2.2.2.2.2.2.2.1
theorem Inv.lk {x : Nat} {z : Nat × Nat} {A : Nat → Nat → Nat} {h : XH} {C M : Nat → Nat → Int32} {P Q : Nat → Nat → Int64} {n : Nat → Nat} {c : Nat} (hyp : Inv x z A h C M P Q n c) : ∀ k, k < n 3 → LkR h A M k := hyp.2.2.2.2.2.2.2.2.2.1
theorem Inv.ha {x : Nat} {z : Nat × Nat} {A : Nat → Nat → Nat} {h : XH} {C M : Nat → Nat → Int32} {P Q : Nat → Nat → Int64} {n : Nat → Nat} {c : Nat} (hyp : Inv x z A h C M P Q n c) : ∀ k, k < n 4 → HaR h A M n k := hyp.2.2.2.2.2.2.2.2.2.2.1
theorem Inv.ey {x : Nat} {z : Nat × Nat} {A : Nat → Nat → Nat} {h : XH} {C M : Nat → Nat → Int32} {P Q : Nat → Nat → Int64} {n : Nat → Nat} {c : Nat} (hyp : Inv x z A h C M P Q n c) : ∀ k, k < n 5 → EyR h A M k := hyp.2.2.2.2.2.2.2.2.2.2.2.1
theorem Inv.ln {x : Nat} {z : Nat × Nat} {A : Nat → Nat → Nat} {h : XH} {C M : Nat → Nat → Int32} {P Q : Nat → Nat → Int64} {n : Nat → Nat} {c : Nat} (hyp : Inv x z A h C M P Q n c) : ∀ k, k < n 6 → LnR h A M k := hyp.2.2.2.2.2.2.2.2.2.2.2.2.1
theorem Inv.cv {x : Nat} {z : Nat × Nat} {A : Nat → Nat → Nat} {h : XH} {C M : Nat → Nat → Int32} {P Q : Nat → Nat → Int64} {n : Nat → Nat} {c : Nat} (hyp : Inv x z A h C M P Q n c) : CV C M := hyp.2.2.2.2.2.2.2.2.2.2.2.2.2.1
theorem Inv.cx {x : Nat} {z : Nat × Nat} {A : Nat → Nat → Nat} {h : XH} {C M : Nat → Nat → Int32} {P Q : Nat → Nat → Int64} {n : Nat → Nat} {c : Nat} (hyp : Inv x z A h C M P Q n c) : CX x h := hyp.2.2.2.2.2.2.2.2.2.2.2.2.2.2.1
theorem Inv.ok {x : Nat} {z : Nat × Nat} {A : Nat → Nat → Nat} {h : XH} {C M : Nat → Nat → Int32} {P Q : Nat → Nat → Int64} {n : Nat → Nat} {c : Nat} (hyp : Inv x z A h C M P Q n c) : Ok M n c := hyp.2.2.2.2.2.2.2.2.2.2.2.2.2.2.2
theorem Inv.bkk0 {x : Nat} {z : Nat × Nat} {A : Nat → Nat → Nat} {h : XH} {C M : Nat → Nat → Int32} {P Q : Nat → Nat → Int64} {n : Nat → Nat} {c : Nat} (hI : Inv x z A h C M P Q n c) {b : Nat} (hlt : b < n 0) : xI h (A 0 b) 0 = iN b := (hI.bk b hlt).k0
theorem Inv.bkk1 {x : Nat} {z : Nat × Nat} {A : Nat → Nat → Nat} {h : XH} {C M : Nat → Nat → Int32} {P Q : Nat → Nat → Int64} {n : Nat → Nat} {c : Nat} (hI : Inv x z A h C M P Q n c) {b : Nat} (hlt : b < n 0) : xI h (A 0 b) 1 = M 7 b := (hI.bk b hlt).k1
theorem Inv.bkk2 {x : Nat} {z : Nat × Nat} {A : Nat → Nat → Nat} {h : XH} {C M : Nat → Nat → Int32} {P Q : Nat → Nat → Int64} {n : Nat → Nat} {c : Nat} (hI : Inv x z A h C M P Q n c) {b : Nat} (hlt : b < n 0) : xI h (A 0 b) 2 = M 8 b := (hI.bk b hlt).k2
theorem Inv.bkk3 {x : Nat} {z : Nat × Nat} {A : Nat → Nat → Nat} {h : XH} {C M : Nat → Nat → Int32} {P Q : Nat → Nat → Int64} {n : Nat → Nat} {c : Nat} (hI : Inv x z A h C M P Q n c) {b : Nat} (hlt : b < n 0) : xI h (A 0 b) 3 = M 9 b := (hI.bk b hlt).k3
theorem Inv.bkk4 {x : Nat} {z : Nat × Nat} {A : Nat → Nat → Nat} {h : XH} {C M : Nat → Nat → Int32} {P Q : Nat → Nat → Int64} {n : Nat → Nat} {c : Nat} (hI : Inv x z A h C M P Q n c) {b : Nat} (hlt : b < n 0) : xI h (A 0 b) 4 = M 10 b := (hI.bk b hlt).k4
theorem Inv.bkk5 {x : Nat} {z : Nat × Nat} {A : Nat → Nat → Nat} {h : XH} {C M : Nat → Nat → Int32} {P Q : Nat → Nat → Int64} {n : Nat → Nat} {c : Nat} (hI : Inv x z A h C M P Q n c) {b : Nat} (hlt : b < n 0) : xI h (A 0 b) 5 = M 11 b := (hI.bk b hlt).k5
theorem Inv.bkk6 {x : Nat} {z : Nat × Nat} {A : Nat → Nat → Nat} {h : XH} {C M : Nat → Nat → Int32} {P Q : Nat → Nat → Int64} {n : Nat → Nat} {c : Nat} (hI : Inv x z A h C M P Q n c) {b : Nat} (hlt : b < n 0) : xI h (A 0 b) 6 = q_own M b := (hI.bk b hlt).k6
theorem Inv.slk0 {x : Nat} {z : Nat × Nat} {A : Nat → Nat → Nat} {h : XH} {C M : Nat → Nat → Int32} {P Q : Nat → Nat → Int64} {n : Nat → Nat} {c : Nat} (hI : Inv x z A h C M P Q n c) {s : Nat} (hlt : s < n 1) : xI h (A 1 s) 0 = M 24 s := (hI.sl s hlt).k0
theorem Inv.slk2 {x : Nat} {z : Nat × Nat} {A : Nat → Nat → Nat} {h : XH} {C M : Nat → Nat → Int32} {P Q : Nat → Nat → Int64} {n : Nat → Nat} {c : Nat} (hI : Inv x z A h C M P Q n c) {s : Nat} (hlt : s < n 1) : xI h (A 1 s) 2 = M 26 s := (hI.sl s hlt).k2
theorem Inv.slk3 {x : Nat} {z : Nat × Nat} {A : Nat → Nat → Nat} {h : XH} {C M : Nat → Nat → Int32} {P Q : Nat → Nat → Int64} {n : Nat → Nat} {c : Nat} (hI : Inv x z A h C M P Q n c) {s : Nat} (hlt : s < n 1) : xI h (A 1 s) 3 = M 28 s := (hI.sl s hlt).k3
theorem Inv.slk4 {x : Nat} {z : Nat × Nat} {A : Nat → Nat → Nat} {h : XH} {C M : Nat → Nat → Int32} {P Q : Nat → Nat → Int64} {n : Nat → Nat} {c : Nat} (hI : Inv x z A h C M P Q n c) {s : Nat} (hlt : s < n 1) : xI h (A 1 s) 4 = M 23 s := (hI.sl s hlt).k4
theorem Inv.slk5 {x : Nat} {z : Nat × Nat} {A : Nat → Nat → Nat} {h : XH} {C M : Nat → Nat → Int32} {P Q : Nat → Nat → Int64} {n : Nat → Nat} {c : Nat} (hI : Inv x z A h C M P Q n c) {s : Nat} (hlt : s < n 1) : xI h (A 1 s) 5 = M 27 s := (hI.sl s hlt).k5
theorem Inv.ruk0 {x : Nat} {z : Nat × Nat} {A : Nat → Nat → Nat} {h : XH} {C M : Nat → Nat → Int32} {P Q : Nat → Nat → Int64} {n : Nat → Nat} {c : Nat} (hI : Inv x z A h C M P Q n c) {r : Nat} (hlt : r < n 2) : xI h (A 2 r) 0 = M 19 r := (hI.ru r hlt).k0
theorem Inv.ruk1 {x : Nat} {z : Nat × Nat} {A : Nat → Nat → Nat} {h : XH} {C M : Nat → Nat → Int32} {P Q : Nat → Nat → Int64} {n : Nat → Nat} {c : Nat} (hI : Inv x z A h C M P Q n c) {r : Nat} (hlt : r < n 2) : xI h (A 2 r) 1 = M 20 r := (hI.ru r hlt).k1
theorem Inv.ruk2 {x : Nat} {z : Nat × Nat} {A : Nat → Nat → Nat} {h : XH} {C M : Nat → Nat → Int32} {P Q : Nat → Nat → Int64} {n : Nat → Nat} {c : Nat} (hI : Inv x z A h C M P Q n c) {r : Nat} (hlt : r < n 2) : xA h (A 2 r) 2 = some (A 7 r) := (hI.ru r hlt).k2
theorem Inv.lkk0 {x : Nat} {z : Nat × Nat} {A : Nat → Nat → Nat} {h : XH} {C M : Nat → Nat → Int32} {P Q : Nat → Nat → Int64} {n : Nat → Nat} {c : Nat} (hI : Inv x z A h C M P Q n c) {k : Nat} (hlt : k < n 3) : xI h (A 3 k) 0 = M 31 k := (hI.lk k hlt).k0
theorem Inv.lkk1 {x : Nat} {z : Nat × Nat} {A : Nat → Nat → Nat} {h : XH} {C M : Nat → Nat → Int32} {P Q : Nat → Nat → Int64} {n : Nat → Nat} {c : Nat} (hI : Inv x z A h C M P Q n c) {k : Nat} (hlt : k < n 3) : xI h (A 3 k) 1 = M 32 k := (hI.lk k hlt).k1
theorem Inv.lkk2 {x : Nat} {z : Nat × Nat} {A : Nat → Nat → Nat} {h : XH} {C M : Nat → Nat → Int32} {P Q : Nat → Nat → Int64} {n : Nat → Nat} {c : Nat} (hI : Inv x z A h C M P Q n c) {k : Nat} (hlt : k < n 3) : xI h (A 3 k) 2 = M 33 k := (hI.lk k hlt).k2
theorem Inv.hak0 {x : Nat} {z : Nat × Nat} {A : Nat → Nat → Nat} {h : XH} {C M : Nat → Nat → Int32} {P Q : Nat → Nat → Int64} {n : Nat → Nat} {c : Nat} (hI : Inv x z A h C M P Q n c) {k : Nat} (hlt : k < n 4) : xI h (A 4 k) 0 = M 15 k := (hI.ha k hlt).k0
theorem Inv.hak1 {x : Nat} {z : Nat × Nat} {A : Nat → Nat → Nat} {h : XH} {C M : Nat → Nat → Int32} {P Q : Nat → Nat → Int64} {n : Nat → Nat} {c : Nat} (hI : Inv x z A h C M P Q n c) {k : Nat} (hlt : k < n 4) : xI h (A 4 k) 1 = M 16 k := (hI.ha k hlt).k1
theorem Inv.hak2 {x : Nat} {z : Nat × Nat} {A : Nat → Nat → Nat} {h : XH} {C M : Nat → Nat → Int32} {P Q : Nat → Nat → Int64} {n : Nat → Nat} {c : Nat} (hI : Inv x z A h C M P Q n c) {k : Nat} (hlt : k < n 4) : xI h (A 4 k) 2 = M 17 k := (hI.ha k hlt).k2
theorem Inv.hak3 {x : Nat} {z : Nat × Nat} {A : Nat → Nat → Nat} {h : XH} {C M : Nat → Nat → Int32} {P Q : Nat → Nat → Int64} {n : Nat → Nat} {c : Nat} (hI : Inv x z A h C M P Q n c) {k : Nat} (hlt : k < n 4) : xI h (A 4 k) 3 = M 18 k := (hI.ha k hlt).k3
theorem Inv.eyk0 {x : Nat} {z : Nat × Nat} {A : Nat → Nat → Nat} {h : XH} {C M : Nat → Nat → Int32} {P Q : Nat → Nat → Int64} {n : Nat → Nat} {c : Nat} (hI : Inv x z A h C M P Q n c) {k : Nat} (hlt : k < n 5) : xI h (A 5 k) 0 = M 48 k := (hI.ey k hlt).k0
theorem Inv.eyk1 {x : Nat} {z : Nat × Nat} {A : Nat → Nat → Nat} {h : XH} {C M : Nat → Nat → Int32} {P Q : Nat → Nat → Int64} {n : Nat → Nat} {c : Nat} (hI : Inv x z A h C M P Q n c) {k : Nat} (hlt : k < n 5) : xI h (A 5 k) 1 = M 49 k := (hI.ey k hlt).k1
theorem Inv.lnk0 {x : Nat} {z : Nat × Nat} {A : Nat → Nat → Nat} {h : XH} {C M : Nat → Nat → Int32} {P Q : Nat → Nat → Int64} {n : Nat → Nat} {c : Nat} (hI : Inv x z A h C M P Q n c) {k : Nat} (hlt : k < n 6) : xI h (A 6 k) 0 = M 37 k := (hI.ln k hlt).k0
theorem Inv.lnk1 {x : Nat} {z : Nat × Nat} {A : Nat → Nat → Nat} {h : XH} {C M : Nat → Nat → Int32} {P Q : Nat → Nat → Int64} {n : Nat → Nat} {c : Nat} (hI : Inv x z A h C M P Q n c) {k : Nat} (hlt : k < n 6) : xI h (A 6 k) 1 = M 38 k := (hI.ln k hlt).k1
theorem Inv.lnk2 {x : Nat} {z : Nat × Nat} {A : Nat → Nat → Nat} {h : XH} {C M : Nat → Nat → Int32} {P Q : Nat → Nat → Int64} {n : Nat → Nat} {c : Nat} (hI : Inv x z A h C M P Q n c) {k : Nat} (hlt : k < n 6) : xI h (A 6 k) 2 = M 39 k := (hI.ln k hlt).k2
theorem Inv.lnk3 {x : Nat} {z : Nat × Nat} {A : Nat → Nat → Nat} {h : XH} {C M : Nat → Nat → Int32} {P Q : Nat → Nat → Int64} {n : Nat → Nat} {c : Nat} (hI : Inv x z A h C M P Q n c) {k : Nat} (hlt : k < n 6) : xI h (A 6 k) 3 = M 40 k := (hI.ln k hlt).k3
theorem Inv.lnk4 {x : Nat} {z : Nat × Nat} {A : Nat → Nat → Nat} {h : XH} {C M : Nat → Nat → Int32} {P Q : Nat → Nat → Int64} {n : Nat → Nat} {c : Nat} (hI : Inv x z A h C M P Q n c) {k : Nat} (hlt : k < n 6) : xI h (A 6 k) 4 = M 41 k := (hI.ln k hlt).k4
theorem Inv.lnk5 {x : Nat} {z : Nat × Nat} {A : Nat → Nat → Nat} {h : XH} {C M : Nat → Nat → Int32} {P Q : Nat → Nat → Int64} {n : Nat → Nat} {c : Nat} (hI : Inv x z A h C M P Q n c) {k : Nat} (hlt : k < n 6) : xI h (A 6 k) 5 = M 42 k := (hI.ln k hlt).k5
theorem Inv.lnk6 {x : Nat} {z : Nat × Nat} {A : Nat → Nat → Nat} {h : XH} {C M : Nat → Nat → Int32} {P Q : Nat → Nat → Int64} {n : Nat → Nat} {c : Nat} (hI : Inv x z A h C M P Q n c) {k : Nat} (hlt : k < n 6) : xI h (A 6 k) 6 = M 43 k := (hI.ln k hlt).k6

