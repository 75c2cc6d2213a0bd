/-! sums, ways and their numbers -/
section SU
def su (F : Nat → Nat) : Nat → Nat
  | 0 => 0
  | k + 1 => su F k + F k
theorem su_s (F : Nat → Nat) (k : Nat) : su F (k + 1) = su F k + F k := rfl
theorem su_cg {F G : Nat → Nat} : ∀ {m : Nat}, (∀ k, k < m → F k = G k) → su F m = su G m
  | 0, _ => rfl
  | m + 1, h => by rw [su_s, su_s, su_cg (m := m) (fun k hk => h k (by omega)), h m (by omega)]
theorem su_ad (F G : Nat → Nat) : ∀ m, su (fun k => F k + G k) m = su F m + su G m
  | 0 => rfl
  | m + 1 => by rw [su_s, su_s, su_s, su_ad F G m]; omega
theorem su_0 : ∀ m, su (fun _ => 0) m = 0
  | 0 => rfl
  | m + 1 => by rw [su_s, su_0 m]
theorem su_1 : ∀ m, su (fun _ => 1) m = m
  | 0 => rfl
  | m + 1 => by rw [su_s, su_1 m]
theorem su_sw (G : Nat → Nat → Nat) (a : Nat) : ∀ b, su (fun k => su (G k) a) b = su (fun j => su (fun k => G k j) b) a
  | 0 => (su_0 a).symm
  | b + 1 => by
    rw [su_s, su_sw G a b]
    have : (fun j => su (fun k => G k j) (b + 1)) = fun j => su (fun k => G k j) b + G b j := rfl
    rw [this, su_ad]
theorem su_no {F : Nat → Nat} {m : Nat} (h : ∀ k, k < m → F k = 0) : su F m = 0 := by
  rw [su_cg (G := fun _ => 0) h, su_0]
theorem su_pt {F : Nat → Nat} {i : Nat} : ∀ {m : Nat}, i < m → (∀ k, k < m → k ≠ i → F k = 0) → su F m = F i
  | 0, h, _ => absurd h (by omega)
  | m + 1, h, h0 => by
    rw [su_s]
    by_cases e : i = m
    · subst e
      rw [su_no (fun k hk => h0 k (by omega) (by omega))]
      omega
    · rw [su_pt (m := m) (by omega) (fun k hk => h0 k (by omega)), h0 m (by omega) (fun h => e h.symm)]
      omega
theorem su_le1 {F : Nat → Nat} : ∀ {m : Nat}, (∀ k, k < m → F k ≤ 1) → su F m ≤ m
  | 0, _ => Nat.le_refl _
  | m + 1, h => by
    have := su_le1 (m := m) (fun k hk => h k (by omega))
    have := h m (by omega)
    rw [su_s]
    omega
theorem su_lt1 {F : Nat → Nat} {i : Nat} : ∀ {m : Nat}, (∀ k, k < m → F k ≤ 1) → i < m → F i = 0 → su F m < m
  | 0, _, h, _ => absurd h (by omega)
  | m + 1, h, hi, h0 => by
    rw [su_s]
    by_cases e : i = m
    · subst e
      have := su_le1 (m := i) (fun k hk => h k (by omega))
      omega
    · have := su_lt1 (m := m) (fun k hk => h k (by omega)) (by omega) h0
      have := h m (by omega)
      omega
theorem su_cut {F : Nat → Nat} {k : Nat} : ∀ {m : Nat}, k ≤ m → su (fun j => if j < k then F j else 0) m = su F k
  | 0, h => by
    have : k = 0 := by omega
    subst this
    rfl
  | m + 1, h => by
    rw [su_s]
    by_cases e : k = m + 1
    · subst e
      rw [su_s, if_pos (by omega)]
      rw [su_cg (G := F) (fun j hj => if_pos (by omega))]
    · rw [su_cut (m := m) (by omega), if_neg (by omega)]
      omega
/-- an order of m things meets each -/
theorem o_sur {o : Nat → Nat} {m : Nat} (ho : ∀ k, k < m → o k < m) (inj : ∀ k l, k < m → l < m → o k = o l → k = l) {j : Nat} (hj : j < m) : ∃ k, k < m ∧ o k = j := by
  refine Classical.byContradiction fun hn => ?_
  have hn : ∀ k, k < m → o k ≠ j := fun k hk e => hn ⟨k, hk, e⟩
  have e1 : su (fun j => su (fun k => if o k = j then 1 else 0) m) m = m := by
    rw [← su_sw (fun k j => if o k = j then 1 else 0) m m]
    rw [su_cg (G := fun _ => 1) (fun k hk => ?_), su_1]
    rw [su_pt (F := fun j => if o k = j then 1 else 0) (i := o k) (ho k hk) (fun l _ hl => if_neg (fun e => hl e.symm))]
    exact if_pos rfl
  have e2 : su (fun j => su (fun k => if o k = j then 1 else 0) m) m < m := by
    refine su_lt1 (fun j hj => ?_) hj (su_no (fun k hk => if_neg (hn k hk)))
    by_cases hx : ∃ k, k < m ∧ o k = j
    · obtain ⟨k, hk, e⟩ := hx
      rw [su_pt (F := fun k => if o k = j then 1 else 0) (i := k) hk (fun l hl hne => if_neg (fun e3 => hne (inj l k hl hk (e3.trans e.symm))))]
      rw [if_pos e]
      exact Nat.le_refl _
    · rw [su_no (fun k hk => if_neg (fun e => hx ⟨k, hk, e⟩))]
      omega
  omega
theorem su_pm {o : Nat → Nat} {m : Nat} (F : Nat → Nat) (ho : ∀ k, k < m → o k < m) (inj : ∀ k l, k < m → l < m → o k = o l → k = l) : su (fun k => F (o k)) m = su F m := by
  have e1 : su (fun k => F (o k)) m = su (fun k => su (fun j => if o k = j then F j else 0) m) m := by
    refine su_cg (fun k hk => ?_)
    rw [su_pt (F := fun j => if o k = j then F j else 0) (i := o k) (ho k hk) (fun l _ hl => if_neg (fun e => hl e.symm))]
    exact (if_pos rfl).symm
  rw [e1, su_sw (fun k j => if o k = j then F j else 0) m m]
  refine su_cg (fun j hj => ?_)
  obtain ⟨k, hk, e⟩ := o_sur ho inj hj
  rw [su_pt (F := fun k => if o k = j then F j else 0) (i := k) hk (fun l hl hne => if_neg (fun e3 => hne (inj l k hl hk (e3.trans e.symm))))]
  exact if_pos e
/-- the class's times and sum behind k of an order -/
def cs (T v d o g : Nat → Nat) : Nat → (Nat → Nat) × Nat
  | 0 => (T, 0)
  | k + 1 => (fun l => if l = g (o k) then fe (cs T v d o g k).1 v (d (o k)) l else (cs T v d o g k).1 l, (cs T v d o g k).2 + fe (cs T v d o g k).1 v (d (o k)) (g (o k)))
theorem cs_s (T v d o g : Nat → Nat) (k : Nat) : cs T v d o g (k + 1) = (fun l => if l = g (o k) then fe (cs T v d o g k).1 v (d (o k)) l else (cs T v d o g k).1 l, (cs T v d o g k).2 + fe (cs T v d o g k).1 v (d (o k)) (g (o k))) := rfl
theorem cs_cg {T v d o g b : Nat → Nat} : ∀ {k : Nat}, (∀ j, j < k → g (o j) = b (o j)) → cs T v d o g k = cs T v d o b k
  | 0, _ => rfl
  | k + 1, h => by rw [cs_s, cs_s, cs_cg (k := k) (fun j hj => h j (by omega)), h k (by omega)]
theorem cs_1 (T v d o g : Nat → Nat) (l : Nat) : ∀ k, (cs T v d o g k).1 l = T l + su (fun j => if g (o j) = l then tk (d (o j)) (v l) else 0) k
  | 0 => rfl
  | k + 1 => by
    have ih := cs_1 T v d o g l k
    rw [cs_s, su_s]
    show (if l = g (o k) then fe (cs T v d o g k).1 v (d (o k)) l else (cs T v d o g k).1 l) = _
    unfold fe
    rw [ih]
    by_cases e : l = g (o k)
    · rw [if_pos e, if_pos e.symm]
      omega
    · rw [if_neg e, if_neg (fun h => e h.symm)]
      omega
theorem cs_2 (T v d o g : Nat → Nat) : ∀ k, (cs T v d o g k).2 = su (fun i => T (g (o i)) + su (fun j => if g (o j) = g (o i) then tk (d (o j)) (v (g (o i))) else 0) (i + 1)) k
  | 0 => rfl
  | k + 1 => by
    have ih := cs_2 T v d o g k
    rw [cs_s, su_s]
    show (cs T v d o g k).2 + fe (cs T v d o g k).1 v (d (o k)) (g (o k)) = _
    unfold fe
    rw [ih, cs_1, su_s, if_pos rfl]
    omega
theorem cs_mo (T v d o g : Nat → Nat) : ∀ {k m : Nat}, k ≤ m → (cs T v d o g k).2 ≤ (cs T v d o g m).2
  | k, 0, h => by
    have : k = 0 := by omega
    subst this
    exact Nat.le_refl _
  | k, m + 1, h => by
    by_cases e : k = m + 1
    · subst e
      exact Nat.le_refl _
    · have := cs_mo T v d o g (k := k) (m := m) (by omega)
      rw [cs_s]
      show _ ≤ (cs T v d o g m).2 + _
      omega
/-- the reference's end of one walk and its sum -/
def rE (T v d g : Nat → Nat) (m i : Nat) : Nat := T (g i) + su (fun j => if g j = g i ∧ (tk (d j) (v (g i)) < tk (d i) (v (g i)) ∨ (tk (d j) (v (g i)) = tk (d i) (v (g i)) ∧ j ≤ i)) then tk (d j) (v (g i)) else 0) m
def rS (T v d g : Nat → Nat) (m : Nat) : Nat := su (fun f => su (fun i => if g i = f then rE T v d g m i else 0) m) 3
theorem tk_lt {p q v : Nat} (hv : 1 ≤ v) (h : p < q) : tk p v < tk q v := by
  unfold tk
  have := Nat.mul_lt_mul_of_pos_right (show 2 * p < 2 * q by omega) (show 0 < v by omega)
  omega
def Sd (d o : Nat → Nat) (m : Nat) : Prop := ∀ k l, k < l → l < m → d (o k) < d (o l) ∨ (d (o k) = d (o l) ∧ o k < o l)
theorem Sd.inj {d o : Nat → Nat} {m : Nat} (h : Sd d o m) : ∀ k l, k < m → l < m → o k = o l → k = l := by
  intro k l hk hl e
  rcases Nat.lt_trichotomy k l with q | q | q
  · have := h k l q hl
    rw [e] at this
    omega
  · exact q
  · have := h l k q hk
    rw [e] at this
    omega
theorem cs_rS {T v d o g : Nat → Nat} {m : Nat} (ho : ∀ k, k < m → o k < m) (hS : Sd d o m) (hg : ∀ i, i < m → g i < 3) (hv : ∀ l, l < 3 → 1 ≤ v l) : (cs T v d o g m).2 = rS T v d g m := by
  have e1 : (cs T v d o g m).2 = su (fun k => rE T v d g m (o k)) m := by
    rw [cs_2]
    refine su_cg (fun k hk => ?_)
    unfold rE
    have hw := hv (g (o k)) (hg _ (ho k hk))
    generalize hvw : v (g (o k)) = w at hw
    rw [← su_cut (k := k + 1) (m := m) (by omega), ← su_pm (fun j => if g j = g (o k) ∧ (tk (d j) w < tk (d (o k)) w ∨ (tk (d j) w = tk (d (o k)) w ∧ j ≤ o k)) then tk (d j) w else 0) ho hS.inj]
    congr 1
    refine su_cg (fun j hj => ?_)
    have key : (tk (d (o j)) w < tk (d (o k)) w ∨ (tk (d (o j)) w = tk (d (o k)) w ∧ o j ≤ o k)) ↔ j < k + 1 := by
      rcases Nat.lt_trichotomy j k with q | q | q
      · refine ⟨fun _ => by omega, fun _ => ?_⟩
        rcases hS j k q hk with r | r
        · exact Or.inl (tk_lt hw r)
        · rw [r.1]
          exact Or.inr ⟨rfl, by omega⟩
      · subst q
        exact ⟨fun _ => by omega, fun _ => Or.inr ⟨rfl, Nat.le_refl _⟩⟩
      · refine ⟨fun hh => ?_, fun _ => by omega⟩
        rcases hS k j q hj with r | r
        · have := tk_lt hw r
          omega
        · rw [r.1] at hh
          omega
    by_cases q : j < k + 1
    · rw [if_pos q]
      by_cases q2 : g (o j) = g (o k)
      · rw [if_pos q2, if_pos ⟨q2, key.2 q⟩]
      · rw [if_neg q2, if_neg (fun h => q2 h.1)]
    · rw [if_neg q, if_neg (fun h => q (key.1 h.2))]
  rw [e1, su_pm (rE T v d g m) ho hS.inj]
  unfold rS
  rw [su_sw (fun f i => if g i = f then rE T v d g m i else 0) m 3]
  refine su_cg (fun i hi => ?_)
  rw [su_pt (F := fun f => if g i = f then rE T v d g m i else 0) (i := g i) (hg i hi) (fun l _ hl => if_neg (fun e => hl e.symm))]
  exact (if_pos rfl).symm
/-- a way's number -/
def nu (g : Nat → Nat) : Nat → Nat
  | 0 => 0
  | i + 1 => 3 * nu g i + g i
theorem nu_s (g : Nat → Nat) (i : Nat) : nu g (i + 1) = 3 * nu g i + g i := rfl
theorem nu_lt {g : Nat → Nat} : ∀ {m : Nat}, (∀ i, i < m → g i < 3) → nu g m < 3 ^ m
  | 0, _ => Nat.one_pos
  | m + 1, h => by
    have := nu_lt (m := m) (fun i hi => h i (by omega))
    have := h m (by omega)
    rw [nu_s, Nat.pow_succ]
    omega
theorem nu_ij {g b : Nat → Nat} : ∀ {m : Nat}, (∀ i, i < m → g i < 3) → (∀ i, i < m → b i < 3) → nu g m = nu b m → ∀ i, i < m → g i = b i
  | 0, _, _, _, i, hi => absurd hi (by omega)
  | m + 1, h1, h2, e, i, hi => by
    rw [nu_s, nu_s] at e
    have a1 := h1 m (by omega)
    have a2 := h2 m (by omega)
    by_cases q : i = m
    · subst q
      omega
    · exact nu_ij (m := m) (fun i hi => h1 i (by omega)) (fun i hi => h2 i (by omega)) (by omega) i (by omega)
theorem nu_cg {g b : Nat → Nat} : ∀ {m : Nat}, (∀ i, i < m → g i = b i) → nu g m = nu b m
  | 0, _ => rfl
  | m + 1, h => by rw [nu_s, nu_s, nu_cg (m := m) (fun i hi => h i (by omega)), h m (by omega)]
theorem nu_ex : ∀ {m W : Nat}, W < 3 ^ m → ∃ g : Nat → Nat, (∀ i, g i < 3) ∧ nu g m = W
  | 0, W, h => ⟨fun _ => 0, fun _ => (by decide : (0 : Nat) < 3), by simp at h; exact h.symm⟩
  | m + 1, W, h => by
    rw [Nat.pow_succ] at h
    obtain ⟨g, h1, h2⟩ := nu_ex (m := m) (W := W / 3) (by omega)
    refine ⟨fun i => if i = m then W % 3 else g i, fun i => ?_, ?_⟩
    · show (if i = m then W % 3 else g i) < 3
      have := h1 i
      split <;> omega
    · rw [nu_s, nu_cg (b := g) (fun i hi => if_neg (by omega)), h2]
      show 3 * (W / 3) + (if m = m then W % 3 else g m) = W
      rw [if_pos rfl]
      omega
theorem nu_fi {g b : Nat → Nat} {i : Nat} (hi : ∀ j, j < i → g j = b j) (hlt : g i < b i) : ∀ {m : Nat}, i < m → (∀ j, j < m → g j < 3) → nu g m < nu b m
  | 0, h, _ => absurd h (by omega)
  | m + 1, h, hg => by
    rw [nu_s, nu_s]
    by_cases e : i = m
    · subst e
      rw [nu_cg hi]
      omega
    · have := nu_fi hi hlt (m := m) (by omega) (fun j hj => hg j (by omega))
      have := hg m (by omega)
      omega
end SU
