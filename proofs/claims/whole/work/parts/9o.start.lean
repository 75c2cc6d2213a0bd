/-! the claim out of the plain run -/
theorem W.mono {p : Program} {l : Launch} {e : Env} {R : Room} {s : State} {m : MethodId} {args : Array Value} {below : List Frame} {meth : Method} {c : Code} {H : Heap} {locs : List Loc} {cells slots : Nat} {Q Q' : State → Prop} {g : JFrame} (h : W p l e R s m args below meth c H locs cells slots Q g) (hq : ∀ t, Q t → Q' t) : W p l e R s m args below meth c H locs cells slots Q' g := fun T hT X => by
  obtain ⟨t, a, b⟩ := h T hT X
  exact ⟨t, a, hq t b⟩
theorem xtb_lw : ∀ w ∈ xtb, w ∈ lw_tbl := fun _ h => (List.mem_filter.mp h).1
theorem xrs_lw : ∀ w ∈ xrs, w ∈ lw_tbl := fun _ h => (List.mem_filter.mp h).1
theorem xcok_all : ∀ t r, t ≠ 0 → xcl[t]? = some r → xCok t ∧ r = xC t := by
  intro t r h0 hr
  have hlt : t < 15 := (List.getElem?_eq_some_iff.mp hr).1
  have key : xCok t := by
    match t, h0, hlt with
    | 1, _, _ => exact xc1
    | 2, _, _ => exact xc2
    | 3, _, _ => exact xc3
    | 4, _, _ => exact xc4
    | 5, _, _ => exact xc5
    | 6, _, _ => exact xc6
    | 7, _, _ => exact xc7
    | 8, _, _ => exact xc8
    | 9, _, _ => exact xc9
    | 10, _, _ => exact xc10
    | 11, _, _ => exact xc11
    | 12, _, _ => exact xc12
    | 13, _, _ => exact xc13
    | 14, _, _ => exact xc14
  exact ⟨key, Option.some.inj (hr.symm.trans key.2.1)⟩
theorem arr_prim {args : Array Value} {s : State} {ty : FieldType} (h : (Cond.arrayClass ty).before args s = true) (hp : ∀ cA, s.vm.findClass ("[" ++ ty.toString) = some cA → va_RA s cA ty) : ∃ cA, ArrOfT s cA ty ∧ va_RA s cA ty ∧ s.vm.findClass ("[" ++ ty.toString) = some cA := by
  obtain ⟨c, k, comp, h1, h2, h3⟩ := Cond.arrayClass_spec h
  exact ⟨c, fun n z => ⟨fun k h => (by cases h), k, h2, comp, h3⟩, hp c h1, h1⟩
theorem arr_obj {args : Array Value} {s : State} {C : String} (h : (Cond.arrayOver (.object C)).before args s = true) : ∃ cA, ArrOfT s cA (.object C) ∧ va_RA s cA (.object C) := by
  obtain ⟨comp, c, k, h1, -, h2, h3, h4⟩ := Cond.arrayOver_spec h
  exact ⟨c, fun n z => ⟨fun k h => (by cases h), k, h2, comp, h3⟩, k, comp, h2, h3, h1, h4⟩
theorem arr_arr {args : Array Value} {s : State} {t : FieldType} (h : (Cond.arrayOver (.array t)).before args s = true) : ∃ comp c k, s.vm.findClass (FieldType.array t).toString = some comp ∧ s.vm.classes[c]? = some k ∧ k.kind = .array comp (.array t) ∧ s.vm.findClass ("[" ++ (FieldType.array t).toString) = some c := by
  simp only [Cond.before, Cond.holds, Cond.value, beq_iff_eq] at h
  cases hc : s.vm.findClass (FieldType.array t).toString with
  | none => simp [hc] at h
  | some comp =>
    simp only [hc, Option.bind_some, Option.bind_eq_some_iff, Option.map_eq_some_iff] at h
    obtain ⟨c, hi, k, hk, hb⟩ := h
    obtain ⟨hlt, hp, -⟩ := Array.findIdx?_eq_some_iff_getElem.mp hi
    have hkk : s.vm.classes[c] = k := (Array.getElem?_eq_some_iff.mp hk).2
    rw [hkk] at hp
    cases hkind : k.kind with
    | array component ty =>
      rw [hkind] at hb hp
      simp at hb hp
      exact ⟨comp, c, k, rfl, hk, by rw [hkind, hp, hb.1], hb.2⟩
    | _ => rw [hkind] at hb; simp at hb
theorem same_new {s t : State} {L : List Loc} {k n k' n' : Nat} (h : s.sameButNew t L k n) (hL : ∀ q ∈ L, s.heap.size ≤ q.base) (hk : k ≤ k') (hn : n ≤ n') : s.sameButNew t [] k' n' := by
  obtain ⟨g1, g2, g3, g4, g5, g6⟩ := h
  refine ⟨g1, g2, by omega, g4, by omega, fun a c hc => ?_⟩
  obtain ⟨c', d1, d2, d3, d4⟩ := g6 a c hc
  refine ⟨c', d1, d2, d3, fun i _ => d4 i (fun hm => ?_)⟩
  have h1 := hL _ hm
  have h2 : a < s.heap.size := (Array.getElem?_eq_some_iff.mp hc).1
  exact absurd h1 (Nat.not_le.mpr h2)
/-! THE CLAIM OUT OF ONE WALK OF THE LAW'S BODY. Your part is whole_start (and what it stands on); all else here is the same for every law, but numbers. -/
def R_law : String := "ReadersRoomLaw"
def lw_P (b : Addr) (xs : List Int32) (args : Array Value) (s : State) : Prop := args = #[.ref b] ∧ s.IntsAt b xs ∧ xs.length ≤ 3072 ∧ (Jvm.Cond.and given_1 narrow_1).before args s = true
def lw_Q (_ : Array Value) (s : State) (o : Outcome) (t : State) : Prop := o = .returned (some (.int 1)) ∧ Framed s o t [] 600000 7302249
def lw_Z (below : List Frame) (a : Array Value) (s : State) : State → Prop := fun t => ∃ o, t.status = .running ∧ Ended t below o ∧ lw_Q a s o t
/-- the law's own end, with 1 on the stack, nothing written that was there before, its room as the claim has it -/
theorem lw_ret {p : Program} {l : Launch} {e : Env} {s : State} {m : MethodId} {below : List Frame} {meth : Method} {c : Code} {b : Nat} (hx : p.tables.exec = Jvm.exec) (hb : c.code = code) (hr : meth.sig.returnType = ret) (hlocks : meth.locks = false) {pc : Nat} {H : Heap} {ls : Array Slot} (hdg : decode code pc = .ok (.ireturn, 1)) : W p l e room_1 s m #[Value.ref b] below meth c H [] 600000 7302249 (lw_Z below #[Value.ref b] s) (F0 m pc ls [.int 1]) := by
  intro T hT X
  obtain ⟨fs, hret, hrun, hended, hW, hframe⟩ := X.leave (v := some (.int 1)) (hlocks := hlocks) (fun h => by rw [hr] at h; cases h)
  have hmeth' : T.vm.method? m = some meth := X.method'
  refine ⟨T.setFrames fs, ?_, .returned (some (.int 1)), hrun, hended, rfl, ⟨_, rfl⟩, hW, hframe⟩
  jvm_step X.here [X.here.top, hx, hb, hdg, hmeth', hr, ret, narrow_b1]
  (try refine ⟨rfl, ?_⟩); (try refine ⟨rfl, ?_⟩)
  first | (intro acts; rw [hret _ acts rfl rfl rfl]) | rw [hret _ _ rfl rfl rfl]
  exact Steps.refl _
/-- what holds at the law's entry: the machine, the code, the tables' words (any of lw_tbl by 'hts w (by decide +kernel)'), the script of L ints xs at the cell b, what the Statement gives of the start (any of its parts by flat_of_before) -/
def lw_At (p : Program) (s : State) (m : MethodId) (meth : Method) (c : Code) (b L : Nat) (xs : Nat → Int32) : Prop :=
  p.tables.exec = Jvm.exec ∧ c.code = code ∧ meth.sig.returnType = ret ∧ c.maxLocals = 4 ∧ s.vm.findClass R_law = some m.cls ∧ (∀ w ∈ lw_tbl, w.before #[Value.ref b] s = true) ∧ va_X b L xs s s.heap ∧ b < s.heap.size ∧ meth.locks = false ∧ (Jvm.Cond.and given_1 narrow_1).before #[Value.ref b] s = true ∧ meth.name = yL_law.name
set_option maxHeartbeats 4000000 in
set_option maxRecDepth 100000 in
theorem whole_start {p : Program} {e : Env} {s : State} {m : MethodId} {below : List Frame} {meth : Method} {c : Code} (l : Launch) {b L : Nat} {xs : Nat → Int32} (hL : L ≤ 3072) (C0 : lw_At p s m meth c b L xs) : W p l e room_1 s m #[Value.ref b] below meth c s.heap [] 0 0 (lw_Z below #[Value.ref b] s) (entryFrame m ([Value.ref b] : List Value).toArray 4) := by
  obtain ⟨hx, hb, hr, hml, hown, hts, hX, hbl, hlocks, hgv, hnm⟩ := C0
  have hs := flat_of_before _ hgv
  have zarr : (Cond.arrayOf (.static "java/util/ArrayList" "DEFAULTCAPACITY_EMPTY_ELEMENTDATA" "[Ljava/lang/Object;") (.object "java/lang/Object")).before #[Value.ref b] s = true := hs _ (by decide +kernel)
  have zex : (Cond.exactly (.static "java/util/ArrayList" "DEFAULTCAPACITY_EMPTY_ELEMENTDATA" "[Ljava/lang/Object;") "[Ljava/lang/Object;").before #[Value.ref b] s = true := hs _ (by decide +kernel)
  have zlen : (Cond.eq (.length (.static "java/util/ArrayList" "DEFAULTCAPACITY_EMPTY_ELEMENTDATA" "[Ljava/lang/Object;")) (.int 0)).before #[Value.ref b] s = true := hs _ (by decide +kernel)
  have mref : (Cond.isRef (.mirror "[Ljava/lang/Object;")).before #[Value.ref b] s = true := hs _ (by decide +kernel)
  obtain ⟨za, cz, zcell, zk, hzev, -, hzc, -, -, -, -⟩ := Cond.exactly_spec zex
  obtain ⟨hzo, hzu⟩ := Cond.arrayOf_spec zarr hzev hzc
  have hzl : zcell.slots.size.toInt32 = Int32.ofNat 0 := by
    cases hv : (Term.length (.static "java/util/ArrayList" "DEFAULTCAPACITY_EMPTY_ELEMENTDATA" "[Ljava/lang/Object;")).eval #[Value.ref b] s none [] s with
    | none => simp [Cond.before, Cond.holds, Cond.value, hv] at zlen
    | some v =>
      obtain ⟨a, cell, h1, h2, h3⟩ := Term.length_spec hv
      rw [hzev] at h1
      cases h1
      obtain ⟨h4, -, -, -⟩ := State.arrayAt?_spec h2
      rw [hzc] at h4
      cases h4
      subst h3
      have hq := Cond.eq_ints hv (show (Term.int 0).eval #[Value.ref b] s none [] s = some (.int 0) from rfl)
      simpa [Cond.before, Cond.holds, hq] using zlen
  obtain ⟨mi, hMi⟩ := va_Mi.of mref
  have hzlt : za < s.heap.size := (Array.getElem?_eq_some_iff.mp hzc).1
  obtain ⟨scr, hcb, hof, hkn, hsz, hval⟩ := id hX
  have hne : b ≠ za := by
    intro e
    rw [e] at hcb
    rw [hzc] at hcb
    cases hcb
    obtain ⟨-, k1, a1, c1, b1⟩ := hof
    obtain ⟨-, k2, a2, c2, b2⟩ := hzo
    rw [a1] at a2
    cases a2
    rw [b1] at b2
    cases b2
  have hw : ∀ w ∈ xtb, w.before #[Value.ref b] s = true := fun w h => hts w (xtb_lw w h)
  have kn : ∀ t, ∃ q : ClassId × (Nat → Nat), ∀ r, t ≠ 0 → xcl[t]? = some r → u_Kn s r.1 r.2.1 r.2.2 q.1 q.2 := by
    intro t
    by_cases ht : t ≠ 0 ∧ ∃ r, xcl[t]? = some r
    · obtain ⟨h0, r, hr⟩ := ht
      obtain ⟨ok, er⟩ := xcok_all t r h0 hr
      obtain ⟨cC, iS, hk⟩ := u_known (C := (xC t).1) (T := (xC t).2.1) (N := (xC t).2.2) hw ok.2.2.1 (hw _ ok.2.2.2.2.2.2.1)
      refine ⟨(cC, iS), fun r' _ hr' => ?_⟩
      rw [hr] at hr'
      cases hr'
      rw [er]
      exact hk
    · exact ⟨(0, fun _ => 0), fun r h0 hr => absurd ⟨h0, r, hr⟩ ht⟩
  obtain ⟨kf, hkf⟩ : ∃ kf : Nat → ClassId × (Nat → Nat), ∀ t r, t ≠ 0 → xcl[t]? = some r → u_Kn s r.1 r.2.1 r.2.2 (kf t).1 (kf t).2 := ⟨fun t => Classical.choose (kn t), fun t => Classical.choose_spec (kn t)⟩
  obtain ⟨cI, aI, rI', fI⟩ := arr_prim (ty := .int) (hts (.arrayClass .int) (by decide +kernel)) (fun _ h => h)
  obtain ⟨cB, aB, rB, -⟩ := arr_prim (ty := .byte) (hts (.arrayClass .byte) (by decide +kernel)) (fun _ h => h)
  obtain ⟨cO, aO, rO, -⟩ := arr_prim (ty := .boolean) (hts (.arrayClass .boolean) (by decide +kernel)) (fun _ h => h)
  obtain ⟨cJ, aJ, rJ, -⟩ := arr_prim (ty := .long) (hts (.arrayClass .long) (by decide +kernel)) (fun _ h => h)
  have wR := hts (.arrayOver (.object "ReadersRoom$Row")) (by decide +kernel)
  have wO := hts (.arrayOver (.object "java/lang/Object")) (by decide +kernel)
  obtain ⟨cR, aR, rR⟩ := arr_obj wR
  obtain ⟨cE, aE, rE'⟩ := arr_obj wO
  obtain ⟨comp, cG, kG, f1, f2, f3, f4⟩ := arr_arr (t := .int) (hts (.arrayOver (.array .int)) (by decide +kernel))
  have ec : comp = cI := Option.some.inj (f1.symm.trans fI)
  have aG : ArrOfT s cG (.array .int) := fun n z => ⟨fun k h => (by cases h), kG, f2, comp, f3⟩
  have rG : va_RA s cG (.array .int) := f4
  obtain ⟨gAf, hgA⟩ : ∃ f : Nat → ClassId, f 100 = cI ∧ f 101 = cB ∧ f 102 = cO ∧ f 103 = cJ ∧ f 104 = cR ∧ f 105 = cE ∧ f 106 = cG := ⟨fun t => if t = 100 then cI else if t = 101 then cB else if t = 102 then cO else if t = 103 then cJ else if t = 104 then cR else if t = 105 then cE else cG, rfl, rfl, rfl, rfl, rfl, rfl, rfl⟩
  obtain ⟨g0, g1, g2, g3, g4, g5, g6⟩ := hgA
  generalize hG : ((fun t => (kf t).1, fun t => (kf t).2, gAf, za, mi, s.heap.size) : XG) = G
  have hGA : gA G = gAf := by rw [← hG]; rfl
  have hGB : gB G = s.heap.size := by rw [← hG]; rfl
  have hGZ : gZ G = za := by rw [← hG]; rfl
  have hGM : gM G = mi := by rw [← hG]; rfl
  have hK : xK G s := by
    refine ⟨fun t r h0 hr => by rw [← hG]; exact hkf t r h0 hr, fun t h1 h2 => ?_, ?_, by rw [hGM]; exact hMi, by rw [hGB]; exact Nat.le_refl _, fun w h => ?_, va_AO.of wR, va_AO.of wO, ?_⟩
    · rw [hGA]
      have : t = 100 ∨ t = 101 ∨ t = 102 ∨ t = 103 ∨ t = 104 ∨ t = 105 ∨ t = 106 := by omega
      rcases this with e | e | e | e | e | e | e <;> subst e
      · rw [g0]; exact ⟨aI, rI'⟩
      · rw [g1]; exact ⟨aB, rB⟩
      · rw [g2]; exact ⟨aO, rO⟩
      · rw [g3]; exact ⟨aJ, rJ⟩
      · rw [g4]; exact ⟨aR, rR⟩
      · rw [g5]; exact ⟨aE, rE'⟩
      · rw [g6]; exact ⟨aG, rG⟩
    · rw [hGZ]
      exact va_Zref (hts (.laysStatic "java/util/ArrayList" "DEFAULTCAPACITY_EMPTY_ELEMENTDATA" "[Ljava/lang/Object;") (by decide +kernel)) (hts (.initialized "java/util/ArrayList") (by decide +kernel)) hzev (fun a ha => by
        show ¬ gB G ≤ a
        rw [hGB]
        exact Nat.not_le.mpr ha)
    · have hg := (List.mem_filter.mp h).2
      exact va_Nw.of (by cases w <;> first | rfl | cases hg) (hts w (xrs_lw w h))
    · refine ⟨kG, ?_, ?_⟩
      · rw [hGA, g6]; exact f2
      · rw [hGA, g0, ← ec]; exact f3
  have hR : xRep G s (xh0 b L xs za s.heap.size) s.heap := by
    have key : ∀ a t n, xT (xh0 b L xs za s.heap.size) a = (t, n) → (a = b ∧ t = 200 ∧ n = L) ∨ (a = za ∧ t = 205 ∧ n = 0) ∨ (t = 0 ∧ n = 0) := by
      intro a t n ht
      have ht : (if a = b then (200, L) else if a = za then (205, 0) else (0, 0)) = (t, n) := ht
      by_cases e1 : a = b
      · rw [if_pos e1] at ht
        cases ht
        exact Or.inl ⟨e1, rfl, rfl⟩
      · rw [if_neg e1] at ht
        by_cases e2 : a = za
        · rw [if_pos e2] at ht
          cases ht
          exact Or.inr (Or.inl ⟨e2, rfl, rfl⟩)
        · rw [if_neg e2] at ht
          cases ht
          exact Or.inr (Or.inr ⟨rfl, rfl⟩)
    refine ⟨rfl, by rw [hGB]; exact Nat.le_refl _, fun a t n ht h0 h1 => ?_, fun a t n ht h0 h1 => ?_, fun a t n ht h0 => ?_⟩
    · rcases key a t n ht with ⟨_, e, _⟩ | ⟨_, e, _⟩ | ⟨e, _⟩ <;> omega
    · rcases key a t n ht with ⟨_, e, _⟩ | ⟨_, e, _⟩ | ⟨e, _⟩ <;> omega
    · rcases key a t n ht with ⟨e1, e2, e3⟩ | ⟨e1, e2, e3⟩ | ⟨e, _⟩
      · subst e1 e2 e3
        refine ⟨by rw [hGB]; exact hbl, scr, hcb, hof, hkn, ⟨by omega, by rw [hsz]⟩, fun k hk => ?_⟩
        rw [hval k hk]
        show some (Value.int (xs k)) = some (Value.int (if a = a then xs k else 0))
        rw [if_pos rfl]
      · subst e1 e2 e3
        exact ⟨by rw [hGB]; exact hzlt, zcell, hzc, hzo, hzu, ⟨Nat.zero_le _, hzl⟩, fun k hk => absurd hk (Nat.not_lt_zero _)⟩
      · omega
  obtain ⟨h', e1, e2, e3⟩ := law_ok b L xs (za, mi) s.heap.size hL hbl hzlt hne
  have n0 : xN (xh0 b L xs za s.heap.size) = s.heap.size := rfl
  have s0 : xS (xh0 b L xs za s.heap.size) = 0 := rfl
  have C : xCx (p, l, e, room_1, s, m, #[Value.ref b], below, meth, c, G, xh0 b L xs za s.heap.size, some (jI 1), h', 4) cL_law yL_law (some .boolean) 14 (za, mi) 4 := by
    refine ⟨hx, hb, hml, hown, hw, hK, ⟨by decide, ?_, ?_, by decide⟩, hr, hlocks, hnm, by rw [hGZ, hGM], rfl⟩
    · show xN h' - xN (xh0 b L xs za s.heap.size) ≤ 600000
      rw [n0]
      omega
    · show xS h' - xS (xh0 b L xs za s.heap.size) ≤ 7302249
      rw [s0]
      omega
  have K := (xL_law 100000 (za, mi)).2 _ C [.ref b, xD, xD, xD] (xh0 b L xs za s.heap.size) (.inr (1, h')) e1 (Le.rf _) rfl
  have K2 := K s.heap [] _ hR va_S.rf (xLs.entry [.ref b] (n := 4) (pad := 3) rfl) (Nat.le_refl _) (Nat.le_refl _)
  rw [Nat.sub_self, Nat.sub_self] at K2
  rw [lg_entry_eq]
  refine W.mono K2 (fun t ht => ?_)
  obtain ⟨o, t1, t2, ⟨t3, -, -⟩, Lc, ⟨t4, t5, t6⟩, t7⟩ := ht
  refine ⟨o, t1, t2, t3, t4, t5, same_new t6 (fun q hq => ?_) ?_ ?_⟩
  · have := t7 q hq
    have : gB G ≤ q.base := this
    rw [hGB] at this
    exact this
  · rw [n0]; omega
  · rw [s0]; omega
set_option maxHeartbeats 4000000 in
theorem lw_walk (l : Launch) (b : Addr) (xs : List Int32) : MetFree l x (headSpec (Jvm.Cond.code x code maxLocals ret :: tables_1) room_1) (lw_P b xs) (fun _ _ _ _ _ => True) lw_Q := by
  refine MetFree.of_bodyS (code := code) (maxLocals := maxLocals) (ret := ret) (by decide) ?_ ?_
  · intro args s m h hn
    obtain ⟨meth, c, h1, h2, h3, h4, h5, h6, -, -⟩ := Cond.code_spec hn (atoms_spec (ws := Jvm.Cond.code x code maxLocals ret :: tables_1) h _ List.mem_cons_self)
    exact ⟨meth, c, h1, h2, h3, h4, h5, h6⟩
  · intro p e s m args below meth c s₁ B hml0 hP _
    obtain ⟨rfl, hx, hbd, hgv⟩ := hP
    obtain ⟨scr, harrAt, hlist, hof, hsmall⟩ := hx
    obtain ⟨hcb, hkn, -, -⟩ := State.arrayAt?_spec harrAt
    have hown : s.vm.findClass R_law = some m.cls := findClass_of_methodNamed B.named
    have hts0 : ∀ c ∈ (Jvm.Cond.code x code maxLocals ret :: tables_1), c.before #[Value.ref b] s = true := atoms_spec (ws := Jvm.Cond.code x code maxLocals ret :: tables_1) B.pre
    have hts : ∀ w ∈ lw_tbl, w.before #[Value.ref b] s = true := k2_hts_sels lw_privs (fun w hw => hts0 w (List.mem_cons_of_mem _ hw)) lw_privs_ok
    have hml : c.maxLocals = 4 := B.maxLocals_eq (hts0 _ List.mem_cons_self)
    have X₀ : Stand p l e room_1 s m #[Value.ref b] below meth c s₁ [] 0 0 := Stand.of_body B
    have hh0 : s₁.heap = s.heap := by rw [B.state]; rfl
    have hsz : scr.slots.size = xs.length := by rw [← Array.length_toList, hlist, List.length_map]
    have hval : ∀ j : Nat, j < xs.length → scr.slots[j]? = some (.int (xs.getD j 0)) := fun j hj => by
      rw [← Array.getElem?_toList, hlist]
      simp [hj]
    have hbl : b < s.heap.size := (Array.getElem?_eq_some_iff.mp hcb).1
    have hX : va_X b xs.length (fun j => xs.getD j 0) s s.heap := ⟨scr, hcb, hof, hkn, hsz, hval⟩
    have K : W p l e room_1 s m #[Value.ref b] below meth c s₁.heap [] 0 0 (lw_Z below #[Value.ref b] s) (entryFrame m ([Value.ref b] : List Value).toArray 4) := by
      rw [hh0]
      exact whole_start l hbd ⟨B.exec, B.bytes, B.returns, hml, hown, hts, hX, hbl, B.notSynchronized, hgv, (name_of_methodNamed B.named B.method).1⟩
    obtain ⟨t, a1, o, b1, b2, b3⟩ := K s₁ rfl X₀
    exact ⟨t, o, a1, b1, b2, b3⟩
theorem lw_pre_spec {args : Array Value} {s : State} (h : (Jvm.Cond.and given_1 narrow_1).before args s = true) (hr : rest_1_c.before args s = true) : ∃ (b : Addr) (xs : List Int32), lw_P b xs args s := by
  have hs := flat_of_before _ h
  have hq := flat_of_before _ hr
  have hc : (Cond.count 1).before args s = true := hs _ (by decide +kernel)
  have harr : (Cond.arrayOf (.arg 0) .int).before args s = true := hs _ (by decide +kernel)
  have hle : (Cond.le (.length (.arg 0)) (.int 3072)).before args s = true := hs _ (by decide +kernel)
  have hlen : (Cond.isInt (.length (.arg 0))).before args s = true := hq _ (by decide +kernel)
  have hall : (Cond.all (.arg 0) (.isInt (.elem (.arg 0) (.index 0)))).before args s = true := hq _ (by decide +kernel)
  obtain ⟨b, xs, hb, hx⟩ := State.ints_of_pre rfl harr hlen hall
  have hsm : xs.length < 2 ^ 31 := hx.choose_spec.2.2.2
  have hev : (Term.length (.arg 0)).eval args s none [] s = some (.int xs.length.toInt32) := hx.length_eval hb
  have hv := Cond.le_ints hev (show (Term.int 3072).eval args s none [] s = some (.int 3072) from rfl)
  have hd : xs.length.toInt32 ≤ 3072 := by
    simpa [Cond.before, Cond.holds, hv] using hle
  have hN : xs.length ≤ 3072 := (Int32.ofNat_le_ofNat hsm (by decide)).mp (show Int32.ofNat xs.length ≤ Int32.ofNat 3072 from hd)
  exact ⟨b, xs, Cond.one_arg hc (show args[0]? = some (.ref b) from hb), hx, hN, h⟩
theorem lw_comes (l : Launch) : Comes l x (Jvm.Cond.code x code maxLocals ret :: tables_1) room_1 (fun tb e args s => Calls_1 tb e args s ∧ rest_1 tb e args s ∧ Pre_1 tb e args s)
    (fun _ _ args s o t => lw_Q args s o t) := by
  intro p e ha hc hk s m args below hf hfit hheap happ hpre
  obtain ⟨b, xs, hP⟩ := lw_pre_spec hpre.2.2 hpre.2.1
  obtain ⟨k, o, h1, h2, h3, hQ⟩ := lw_walk l b xs p e ha hc hk s m args below hf ((Spec.applies_iff_loose hf).mp happ).1 hP trivial
  exact ⟨k, o, h1, h2, h3, hQ⟩
theorem lw_frame {s t : State} {o : Outcome} {args : Array Value} (h : Framed s o t [] 600000 7302249) :
    Framed s o t (fieldLocs frame_1_writes args s ++ arrayLocs frame_1_arrays args s ++ staticLocs frame_1_statics s) 600000 7302249 := h
theorem lw_limb (L : Cond) (hL : ∀ (args : Array Value) (s t : State), L.after args s (.returned (some (.int 1))) t = true) :
    ArmFor flags0 classFile x code maxLocals ret World_1 tables_1 room_1 Calls_1 rest_1 Pre_1
      (fun tb e a s o t => postC L tb e a s o t ∧ Framed s o t (fieldLocs frame_1_writes a s ++ arrayLocs frame_1_arrays a s ++ staticLocs frame_1_statics s) 600000 7302249) := by
  intro l _ _ _ p e ha hc hk s m args below hf hfit hheap happ hpre
  obtain ⟨k, o, h1, h2, h3, rfl, hF⟩ := lw_comes l p e ha hc hk s m args below hf hfit hheap happ hpre
  exact ⟨k, _, h1, h2, h3, hL args s _, lw_frame hF⟩
theorem i_vc : Claimed_1_1 ∧ Claimed_1_2 := ⟨lw_limb limb_1_1 (fun args s t => by simp [limb_1_1, Cond.after, Cond.holds, Cond.value]), lw_limb limb_1_2 (fun args s t => Cond.after_iff.mpr (by
  first | (rw [show limb_1_2 = Cond.eq .result (.int 1) from rfl, Cond.eq_ints (x := 1) (y := 1) rfl rfl]; simp; done) | (simp [limb_1_2, Cond.value, Term.eval]; done)))⟩
