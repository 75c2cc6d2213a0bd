/-! shelves moved: the two tables -/
section MV
def ld (sz : Nat → Nat) (b : Nat) : Nat → Nat := su (fun j => if b ≤ j then sz j else 0)
def co (sz pl : Nat → Nat) (s b : Nat) : Nat → Nat := su (fun j => if b ≤ j ∧ pl j ≠ s then sz j else 0)
theorem ld_s (sz : Nat → Nat) {b e : Nat} (h : b ≤ e) : ld sz b (e + 1) = ld sz b e + sz e := by
  show ld sz b e + (if b ≤ e then sz e else 0) = _
  rw [if_pos h]
theorem co_s (sz pl : Nat → Nat) (s : Nat) {b e : Nat} (h : b ≤ e) : co sz pl s b (e + 1) = co sz pl s b e + if pl e = s then 0 else sz e := by
  show co sz pl s b e + (if b ≤ e ∧ pl e ≠ s then sz e else 0) = _
  by_cases w : pl e = s
  · rw [if_pos w, if_neg (fun q => q.2 w)]
  · rw [if_neg w, if_pos ⟨h, w⟩]
theorem ld_b (sz : Nat → Nat) (b : Nat) : ld sz b b = 0 := su_no (fun k hk => if_neg (by omega))
theorem co_b (sz pl : Nat → Nat) (s b : Nat) : co sz pl s b b = 0 := su_no (fun k hk => if_neg (by omega))
theorem ld_mo (sz : Nat → Nat) (b : Nat) : ∀ {e f : Nat}, e ≤ f → ld sz b e ≤ ld sz b f
  | e, 0, h => by
    have : e = 0 := by omega
    subst this
    exact Nat.le_refl _
  | e, f + 1, h => by
    by_cases q : e = f + 1
    · subst q; exact Nat.le_refl _
    · have := ld_mo sz b (e := e) (f := f) (by omega)
      show _ ≤ ld sz b f + _
      omega
theorem ld_le {sz : Nat → Nat} {k : Nat} (hz : ∀ i, i < k → sz i ≤ 99) (b : Nat) : ∀ {e : Nat}, e ≤ k → ld sz b e ≤ 99 * e
  | 0, _ => Nat.le_refl _
  | e + 1, h => by
    have ih := ld_le hz b (e := e) (by omega)
    have := hz e (by omega)
    show ld sz b e + (if b ≤ e then sz e else 0) ≤ _
    split <;> omega
theorem co_le {sz pl : Nat → Nat} {k : Nat} (hz : ∀ i, i < k → sz i ≤ 99) (s b : Nat) : ∀ {e : Nat}, e ≤ k → co sz pl s b e ≤ 99 * e
  | 0, _ => Nat.le_refl _
  | e + 1, h => by
    have ih := co_le (pl := pl) hz s b (e := e) (by omega)
    have := hz e (by omega)
    show co sz pl s b e + (if b ≤ e ∧ pl e ≠ s then sz e else 0) ≤ _
    split <;> omega
/-- the fewest and the last end, of the ends b .. b + t - 1 -/
def mv (sz pl : Nat → Nat) (r : Nat) (g : Nat → Nat) (s b : Nat) : Nat → Nat × Nat
  | 0 => (1000000, b)
  | t + 1 => if ld sz b (b + t) ≤ r ∧ co sz pl s b (b + t) + g (b + t) ≤ (mv sz pl r g s b t).1 then (co sz pl s b (b + t) + g (b + t), b + t) else mv sz pl r g s b t
theorem mv_s (sz pl : Nat → Nat) (r : Nat) (g : Nat → Nat) (s b t : Nat) : mv sz pl r g s b (t + 1) = if ld sz b (b + t) ≤ r ∧ co sz pl s b (b + t) + g (b + t) ≤ (mv sz pl r g s b t).1 then (co sz pl s b (b + t) + g (b + t), b + t) else mv sz pl r g s b t := rfl
/-- no room any more: nothing changes -/
theorem mv_c {sz pl : Nat → Nat} {r : Nat} {g : Nat → Nat} {s b c : Nat} (h : r < ld sz b (b + c)) : ∀ t, c ≤ t → mv sz pl r g s b t = mv sz pl r g s b c
  | 0, ht => by
    have : c = 0 := by omega
    subst this
    rfl
  | t + 1, ht => by
    by_cases e : c = t + 1
    · subst e; rfl
    · have := ld_mo sz b (e := b + c) (f := b + t) (by omega)
      rw [mv_s, if_neg (fun q => by omega)]
      exact mv_c h t (by omega)
theorem mv_1 (sz pl : Nat → Nat) (r : Nat) {g : Nat → Nat} (s b : Nat) (hg : g b ≤ 1000000) : mv sz pl r g s b 1 = (g b, b) := by
  rw [mv_s]
  show (if ld sz b b ≤ r ∧ co sz pl s b b + g b ≤ 1000000 then (co sz pl s b b + g b, b) else _) = _
  rw [ld_b, co_b, if_pos ⟨Nat.zero_le _, by omega⟩, Nat.zero_add]
theorem mv_p {sz pl : Nat → Nat} {r : Nat} {g : Nat → Nat} {s b : Nat} (hg : g b ≤ 1000000) : ∀ t, 1 ≤ t → (mv sz pl r g s b t).1 ≤ 1000000 ∧ b ≤ (mv sz pl r g s b t).2 ∧ (mv sz pl r g s b t).2 < b + t ∧ ld sz b (mv sz pl r g s b t).2 ≤ r ∧ co sz pl s b (mv sz pl r g s b t).2 + g (mv sz pl r g s b t).2 = (mv sz pl r g s b t).1 ∧ ∀ e, (mv sz pl r g s b t).2 < e → e < b + t → ld sz b e ≤ r → (mv sz pl r g s b t).1 < co sz pl s b e + g e
  | 0, h => absurd h (by omega)
  | t + 1, h => by
    by_cases e : t = 0
    · subst e
      rw [mv_1 sz pl r s b hg]
      exact ⟨hg, Nat.le_refl _, by omega, by rw [ld_b]; omega, by show co sz pl s b b + g b = g b; rw [co_b]; omega, fun e h1 h2 => absurd h2 (by show ¬ e < b + 1; have : b < e := h1; omega)⟩
    · obtain ⟨i1, i2, i3, i4, i5, i6⟩ := mv_p (sz := sz) (pl := pl) (r := r) (s := s) hg t (by omega)
      rw [mv_s]
      split
      · rename_i w
        exact ⟨by show co sz pl s b (b + t) + g (b + t) ≤ _; omega, by show b ≤ b + t; omega, by show b + t < _; omega, w.1, rfl, fun e h1 h2 => absurd h2 (by have : b + t < e := h1; omega)⟩
      · rename_i w
        refine ⟨i1, i2, by omega, i4, i5, fun e h1 h2 h3 => ?_⟩
        by_cases q : e = b + t
        · subst q
          refine Classical.byContradiction fun n => w ⟨h3, by omega⟩
        · exact i6 e h1 (by omega) h3
/-- the reference's numbers: no way is 1000000000 there -/
def rr (v : Nat) : Nat := if v = 1000000 then 1000000000 else v
theorem rr_lt {v : Nat} (h : v < 1000000) : rr v = v := if_neg (by omega)
theorem rr_le {v : Nat} (h : v ≤ 1000000) : rr v ≤ 1000000000 := by unfold rr; split <;> omega
theorem rr_c (v : Nat) : (v = 1000000 ∧ rr v = 1000000000) ∨ (v ≠ 1000000 ∧ rr v = v) := by
  unfold rr
  by_cases e : v = 1000000
  · exact Or.inl ⟨e, if_pos e⟩
  · exact Or.inr ⟨e, if_neg e⟩
theorem rr_s {c g v : Nat} (hc : c ≤ 2000) (hg : g = 1000000 ∨ g ≤ 20000) (hv : v ≤ 1000000) : (if c + rr g < rr v then c + rr g else rr v) = rr (if c + g ≤ v then c + g else v) := by
  have h1 := rr_c g
  have h2 := rr_c v
  by_cases q : c + g ≤ v
  · rw [if_pos q]
    have h3 := rr_c (c + g)
    split <;> omega
  · rw [if_neg q]
    split <;> omega
theorem rr_e {c g v : Nat} (hg : g ≤ 1000000) (hv : v < 1000000) (hc : c ≤ 2000) : c + rr g = rr v ↔ c + g = v := by
  unfold rr
  rw [if_neg (show ¬ v = 1000000 by omega)]
  split <;> omega
/-- the table: u shelves stand behind -/
def gt (sz pl rm : Nat → Nat) (k : Nat) : Nat → Nat → Nat
  | 0 => fun i => if i = k then 0 else 1000000
  | u + 1 => fun i => (mv sz pl (rm (7 - u)) (gt sz pl rm k u) (7 - u) i (k + 1 - i)).1
def en (sz pl rm : Nat → Nat) (k u i : Nat) : Nat := (mv sz pl (rm (7 - u)) (gt sz pl rm k u) (7 - u) i (k + 1 - i)).2
theorem gt_s (sz pl rm : Nat → Nat) (k u i : Nat) : gt sz pl rm k (u + 1) i = (mv sz pl (rm (7 - u)) (gt sz pl rm k u) (7 - u) i (k + 1 - i)).1 := rfl
theorem gt_le {sz pl rm : Nat → Nat} {k : Nat} (hk : k ≤ 12) (hz : ∀ i, i < k → sz i ≤ 99) : ∀ u i, i ≤ k → gt sz pl rm k u i ≤ 1000000 ∧ (gt sz pl rm k u i = 1000000 ∨ gt sz pl rm k u i ≤ 1188 * u)
  | 0, i, hi => by
    show (if i = k then 0 else 1000000) ≤ 1000000 ∧ ((if i = k then 0 else 1000000) = 1000000 ∨ (if i = k then 0 else 1000000) ≤ 0)
    split
    · exact ⟨by omega, Or.inr (Nat.le_refl _)⟩
    · exact ⟨Nat.le_refl _, Or.inl rfl⟩
  | u + 1, i, hi => by
    have ih := gt_le (rm := rm) (pl := pl) hk hz u
    rw [gt_s]
    obtain ⟨i1, i2, i3, i4, i5, i6⟩ := mv_p (sz := sz) (pl := pl) (r := rm (7 - u)) (g := gt sz pl rm k u) (s := 7 - u) (b := i) (ih i hi).1 (k + 1 - i) (by omega)
    have q1 := (ih _ (show (mv sz pl (rm (7 - u)) (gt sz pl rm k u) (7 - u) i (k + 1 - i)).2 ≤ k by omega)).2
    have q2 := co_le (pl := pl) hz (7 - u) i (e := (mv sz pl (rm (7 - u)) (gt sz pl rm k u) (7 - u) i (k + 1 - i)).2) (by omega)
    refine ⟨i1, ?_⟩
    omega
/-- where the classes of shelf s begin -/
def bg (sz pl rm : Nat → Nat) (k : Nat) : Nat → Nat
  | 0 => 0
  | s + 1 => en sz pl rm k (7 - s) (bg sz pl rm k s)
theorem bg_s (sz pl rm : Nat → Nat) (k s : Nat) : bg sz pl rm k (s + 1) = en sz pl rm k (7 - s) (bg sz pl rm k s) := rfl
theorem en_p {sz pl rm : Nat → Nat} {k : Nat} (hk : k ≤ 12) (hz : ∀ i, i < k → sz i ≤ 99) {u i : Nat} (hi : i ≤ k) (hg : gt sz pl rm k (u + 1) i < 1000000) : i ≤ en sz pl rm k u i ∧ en sz pl rm k u i ≤ k ∧ ld sz i (en sz pl rm k u i) ≤ rm (7 - u) ∧ co sz pl (7 - u) i (en sz pl rm k u i) + gt sz pl rm k u (en sz pl rm k u i) = gt sz pl rm k (u + 1) i ∧ gt sz pl rm k u (en sz pl rm k u i) < 1000000 ∧ ∀ e, en sz pl rm k u i < e → e ≤ k → ld sz i e ≤ rm (7 - u) → co sz pl (7 - u) i e + gt sz pl rm k u e ≠ gt sz pl rm k (u + 1) i := by
  obtain ⟨i1, i2, i3, i4, i5, i6⟩ := mv_p (sz := sz) (pl := pl) (r := rm (7 - u)) (g := gt sz pl rm k u) (s := 7 - u) (b := i) (gt_le hk hz u i hi).1 (k + 1 - i) (by omega)
  rw [gt_s] at hg ⊢
  unfold en
  refine ⟨i2, by omega, i4, i5, by omega, fun e h1 h2 h3 => ?_⟩
  have := i6 e h1 (by omega) h3
  omega
theorem bg_p {sz pl rm : Nat → Nat} {k : Nat} (hk : k ≤ 12) (hz : ∀ i, i < k → sz i ≤ 99) (hg : gt sz pl rm k 8 0 < 1000000) : ∀ s, s ≤ 8 → bg sz pl rm k s ≤ k ∧ gt sz pl rm k (8 - s) (bg sz pl rm k s) < 1000000
  | 0, _ => ⟨Nat.zero_le _, hg⟩
  | s + 1, hs => by
    obtain ⟨i1, i2⟩ := bg_p hk hz hg s (by omega)
    rw [show 8 - s = (7 - s) + 1 from by omega] at i2
    obtain ⟨e1, e2, e3, e4, e5, e6⟩ := en_p hk hz i1 i2
    rw [bg_s, show 8 - (s + 1) = 7 - s from by omega]
    exact ⟨e2, e5⟩
theorem bg_8 {sz pl rm : Nat → Nat} {k : Nat} (hk : k ≤ 12) (hz : ∀ i, i < k → sz i ≤ 99) (hg : gt sz pl rm k 8 0 < 1000000) : bg sz pl rm k 8 = k := by
  have q := (bg_p hk hz hg 8 (Nat.le_refl _)).2
  generalize bg sz pl rm k 8 = i at q ⊢
  refine Classical.byContradiction fun w => ?_
  have key : ∀ i, i ≠ k → gt sz pl rm k 0 i = 1000000 := fun i hi => if_neg hi
  rw [Nat.sub_self, key i w] at q
  omega
/-- the shelf of class i, s shelves filled -/
def asg (sz pl rm : Nat → Nat) (k : Nat) : Nat → Nat → Nat
  | 0 => fun _ => 0
  | s + 1 => fun i => if bg sz pl rm k s ≤ i then s else asg sz pl rm k s i
theorem asg_s (sz pl rm : Nat → Nat) (k s i : Nat) : asg sz pl rm k (s + 1) i = if bg sz pl rm k s ≤ i then s else asg sz pl rm k s i := rfl
end MV
