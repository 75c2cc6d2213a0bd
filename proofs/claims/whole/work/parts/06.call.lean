theorem xK.same {G : XG} {u U : State} (hv : u.vm = U.vm) (hh : u.heap = U.heap) (h : xK G u) : xK G U := by
  obtain ⟨h1, h2, h3, h4, h5, h6, h7, h8, h9⟩ := h
  have hvm : u.vm.Alike U.vm := hv ▸ Vm.Alike.refl u.vm
  refine ⟨fun t r ht hr => u_Kn_moved hvm (h1 t r ht hr), fun t ha hb => ⟨arrOfT_moved hvm (h2 t ha hb).1, (h2 t ha hb).2.moved hvm⟩, ?_, h4.moved hvm, hh ▸ h5, fun w hw => ?_, h7.moved hvm, h8.moved hvm, h9.moved hvm⟩
  · rw [← hh]; exact h3.moved hvm
  · refine va_Nw.same ?_ hv (h6 w hw)
    have hg := (List.mem_filter.mp hw).2
    cases w <;> first | rfl | cases hg
def MetX (z : Nat × Nat) (y : MethodName) (cc : ByteArray) (nL : Nat) (ret : Option FieldType) {ρ : Type} (inj : ρ → Option Value) (d : Nat) (f : List Value → XH → Option (ρ × XH)) : Prop :=
  nL ≤ 45 ∧ ∀ (as : List Value) (h : XH) (v : ρ) (h' : XH), f as h = some (v, h') → (xN h ≤ xN h' ∧ xS h ≤ xS h') ∧ ∀ (l : Launch) (G : XG), (gZ G, gM G) = z → Met l y (Cond.code y cc nL ret :: xtb) { frames := d, cells := xN h' - xN h, slots := xS h' - xS h, locals := 64 * d } (PX G as h) (QX G (inj v) h') (xN h' - xN h) (xS h' - xS h) (gO G)
theorem blindX (G : XG) (as : List Value) (h : XH) : FrameBlind (PX G as h) := by
  intro a U g mk q
  exact ⟨q.1, xRep.moved (u := U) (U := U.calling g mk a) (Vm.Alike.refl U.vm) q.2.1, xK.same (u := U) (U := U.calling g mk a) rfl rfl q.2.2⟩
/-- what a call's words say -/
def xCb (y : MethodName) (cc : ByteArray) (nL : Nat) (ret : Option FieldType) (n : Nat) : Prop := Cond.initialized y.cls ∈ xtb ∧ Cond.code y cc nL ret ∈ xtb ∧ (y.cls ≠ "java/lang/invoke/MethodHandle" ∧ y.cls ≠ "java/lang/invoke/VarHandle" ∧ (parseMethodDescriptor y.desc).map (fun d => d.parameters.length) = some n)
theorem good_ws {y : MethodName} {cc : ByteArray} {nL : Nat} {ret : Option FieldType} (h : Cond.code y cc nL ret ∈ xtb) : GoodIn xtb (Cond.code y cc nL ret :: xtb) := by
  intro w hw
  rcases List.mem_cons.mp hw with e | e
  · subst e; exact ⟨h, tbl_good _ h⟩
  · exact ⟨e, tbl_good w e⟩
theorem good_V {own : String} {idx : Nat} {C : String} {y : MethodName} {ws : List Cond} (g : GoodIn xtb ws) (h1 : Cond.methodLink own idx y ∈ xtb) (h2 : Cond.instanceMethod y ∈ xtb) (h3 : Cond.selects C y y ∈ xtb) (h4 : Cond.initialized C ∈ xtb) : GoodIn xtb (wsV own idx C y ws) := by
  intro w hw
  unfold wsV at hw
  rcases List.mem_append.mp hw with e | e
  · have : w ∈ xtb := by
      simp only [List.mem_cons, List.not_mem_nil, or_false] at e
      rcases e with rfl | rfl | rfl | rfl <;> assumption
    exact ⟨this, tbl_good w this⟩
  · exact g w e
def cats (st : List Value) : Nat := (st.map fun v => v.category).sum
section CL
variable {X : XX} {cc : ByteArray} {y : MethodName} {ret : Option FieldType} {d pc n9 : Nat} {z9 : Nat × Nat} {L st : List Value} {h : XH}
variable {y2 : MethodName} {cc2 : ByteArray} {nL2 n2 d2 idx : Nat} {ret2 : Option FieldType} {ρ : Type} {inj : ρ → Option Value} {f : List Value → XH → Option (ρ × XH)} {v : ρ} {h' : XH} {As : List Value}
/-- behind a run: the world as the callee leaves it -/
theorem go_run {p : Program} {l : Launch} {e : Env} {R : Room} {s : State} {m : MethodId} {args : Array Value} {below : List Frame} {meth : Method} {c : Code} {G : XG} {h0 : XH} {ov : Option Value} {hF : XH} {nL : Nat} {H : Heap} {locs : List Loc} {ls : Array Slot} {st0 : List Value} {a9 : Array Value}
    (hS : va_S (gO G) s.heap H locs) (hL : xLs nL L ls) (h1 : xN h0 ≤ xN h) (h2 : xS h0 ≤ xS h) (hle : xN h ≤ xN h' ∧ xS h ≤ xS h')
    (hr : va_Run p l e R s m args below meth c H locs (xN h - xN h0) (xS h - xS h0) (xN h' - xN h) (xS h' - xS h) (F0 m pc ls st0) st (QX G (inj v) h' a9) (gO G))
    (kk : Go (p, l, e, R, s, m, args, below, meth, c, G, h0, ov, hF, nL) (pc + 3) L ((inj v).toList ++ st) h') :
    W p l e R s m args below meth c H locs (xN h - xN h0) (xS h - xS h0) (MQ below (QX G ov hF) args s (xN hF - xN h0) (xS hF - xS h0) (gO G)) (F0 m pc ls st0) := by
  intro T hT Y
  obtain ⟨v', st₀, t, T', Lc, e0, Y', hLc, e1, e2, ⟨ho, hRt, hFt⟩, stp⟩ := hr T hT Y
  cases ho
  have hal : t.vm.Alike s.vm := by
    have := Y'.warmed.alike
    rw [e2] at this
    exact this.symm
  have hz : H.size ≤ T'.heap.size := by rw [e1, ← e0]; exact hFt.1
  have hk : ∀ q : Nat, q < H.size → ¬ gO G q → T'.heap[q]? = H[q]? := fun q q1 q2 => by
    rw [e1, ← e0]
    exact hFt.2 q (by rw [e0]; exact q1) q2
  have := kk T'.heap (locs ++ Lc) ls (by rw [e1]; exact hRt.moved hal) ⟨Nat.le_trans hS.1 hz, fun q q1 q2 => (hk q (Nat.lt_of_lt_of_le q1 hS.1) q2).trans (hS.2.1 q q1 q2), fun q hq => by
      rcases List.mem_append.mp hq with w | w
      · exact hS.2.2 q w
      · exact hLc q w⟩ hL (by omega) (by omega)
  rw [show xN h' - xN h0 = xN h - xN h0 + (xN h' - xN h) by omega, show xS h' - xS h0 = xS h - xS h0 + (xS h' - xS h) by omega] at this
  obtain ⟨t2, a1, b1⟩ := this T' rfl Y'
  exact ⟨t2, stp t2 a1, b1⟩
theorem go_callV (C : xCx X cc y ret d z9 n9) (hM : MetX z9 y2 cc2 nL2 ret2 inj d2 f) (hdd : d2 + 1 ≤ d) (wb : xCb y2 cc2 nL2 ret2 n2) (w1 : Cond.methodLink y.cls idx y2 ∈ xtb) (w2 : Cond.instanceMethod y2 ∈ xtb) (w3 : Cond.selects y2.cls y2 y2 ∈ xtb) {t b : Nat} (hc : xCok t) (hcn : (xC t).1 = y2.cls) (hbt : (xT h b).1 = t) (hf : f (.ref b :: As) h = some (v, h')) (hn : As.length = n2) (hst : cats st ≤ 8) (hN : xN h' ≤ xN (xEnd X).2) (hSl : xS h' ≤ xS (xEnd X).2) (hd : decode cc pc = .ok (.invokevirtual idx, 3)) (kk : Go X (pc + 3) L ((inj v).toList ++ st) h') : Go X pc L (As.reverse ++ .ref b :: st) h := by
  obtain ⟨p, l, e, R, s, m, args, below, meth, c, G, h0, ov, hF, nL⟩ := X
  intro H locs ls hR hS hL h1 h2
  obtain ⟨hx, hb, hml, hown, hts, hK, hRm, hret, hlk, hnm, hzz, hn9⟩ := C
  obtain ⟨hnl, hM⟩ := hM
  obtain ⟨hle, hM⟩ := hM _ _ _ _ hf
  have hN' : xN h' ≤ xN hF := hN
  have hS' : xS h' ≤ xS hF := hSl
  obtain ⟨-, cell, q1, q2, q3, -⟩ := hR.obj hc hbt
  have hcls := (hK.1 t _ hc.1.1 hc.2.1).2
  refine go_run hS hL h1 h2 hle (a9 := (Value.ref b :: As).toArray) ?_ kk
  refine va_runV (C := y2.cls) (As := As) (rest := st) (n := n2) ⟨hx, hb, hml, hown, hts⟩ (hM l G hzz) (cwV n2 hts (good_V (good_ws wb.2.1) w1 w2 w3 wb.1) rfl rfl rfl ⟨rfl, wb.2.2⟩ ⟨Nat.le_trans hdd hRm.1, Nat.le_trans (show 8 + (nL2 + 11) + 64 * d2 ≤ 64 * d by omega) hRm.2.2.2⟩)
    ⟨blindX _ _ _, ⟨cell, q1, by rw [q3]; rfl, by rw [q2, ← hcn]; exact hcls.1⟩, fun U hU hW => ⟨rfl, by rw [hU]; exact hR.moved hW.alike, hK.moved hW (by rw [hU]; exact hS.1) (fun q z1 z2 => by rw [hU]; exact hS.2.1 q z1 z2)⟩⟩ rfl hn hL.2.1 rfl (lv_room hst) hd ⟨Nat.le_trans (by omega) hRm.2.1, Nat.le_trans (by omega) hRm.2.2.1⟩
theorem go_callS (C : xCx X cc y ret d z9 n9) (hM : MetX z9 y2 cc2 nL2 ret2 inj d2 f) (hdd : d2 + 1 ≤ d) (wb : xCb y2 cc2 nL2 ret2 n2) (w1 : Cond.methodLink y.cls idx y2 ∈ xtb) (w2 : Cond.static y2 ∈ xtb) (hf : f As h = some (v, h')) (hn : As.length = n2) (hst : cats st ≤ 8) (hN : xN h' ≤ xN (xEnd X).2) (hSl : xS h' ≤ xS (xEnd X).2) (hd : decode cc pc = .ok (.invokestatic idx, 3)) (kk : Go X (pc + 3) L ((inj v).toList ++ st) h') : Go X pc L (As.reverse ++ st) h := by
  obtain ⟨p, l, e, R, s, m, args, below, meth, c, G, h0, ov, hF, nL⟩ := X
  intro H locs ls hR hS hL h1 h2
  obtain ⟨hx, hb, hml, hown, hts, hK, hRm, hret, hlk, hnm, hzz, hn9⟩ := C
  obtain ⟨hnl, hM⟩ := hM
  obtain ⟨hle, hM⟩ := hM _ _ _ _ hf
  have hN' : xN h' ≤ xN hF := hN
  have hS' : xS h' ≤ xS hF := hSl
  refine go_run hS hL h1 h2 hle (a9 := As.toArray) ?_ kk
  refine va_runS (As := As) (rest := st) (n := n2) ⟨hx, hb, hml, hown, hts⟩ (hM l G hzz) ⟨callB_of n2 hts (good_ws wb.2.1) rfl rfl rfl (hts _ wb.1) (hts _ w1) wb.2.2 ⟨Nat.le_trans hdd hRm.1, Nat.le_trans (show 8 + (nL2 + 11) + 64 * d2 ≤ 64 * d by omega) hRm.2.2.2⟩, hts _ w2⟩
    ⟨blindX _ _ _, fun U hU hW => ⟨rfl, by rw [hU]; exact hR.moved hW.alike, hK.moved hW (by rw [hU]; exact hS.1) (fun q z1 z2 => by rw [hU]; exact hS.2.1 q z1 z2)⟩⟩ rfl hn hL.2.1 rfl (lv_room hst) hd ⟨Nat.le_trans (by omega) hRm.2.1, Nat.le_trans (by omega) hRm.2.2.1⟩
theorem go_callSN (C : xCx X cc y ret d z9 n9) (hM : MetX z9 y2 cc2 nL2 ret2 inj d2 f) (hdd : d2 + 1 ≤ d) (wb : xCb y2 cc2 nL2 ret2 n2) {host : String} (w1 : Cond.methodLinkNest y.cls idx y2 host ∈ xrs) (w2 : Cond.static y2 ∈ xtb) (hf : f As h = some (v, h')) (hn : As.length = n2) (hst : cats st ≤ 8) (hN : xN h' ≤ xN (xEnd X).2) (hSl : xS h' ≤ xS (xEnd X).2) (hd : decode cc pc = .ok (.invokestatic idx, 3)) (kk : Go X (pc + 3) L ((inj v).toList ++ st) h') : Go X pc L (As.reverse ++ st) h := by
  obtain ⟨p, l, e, R, s, m, args, below, meth, c, G, h0, ov, hF, nL⟩ := X
  intro H locs ls hR hS hL h1 h2
  obtain ⟨hx, hb, hml, hown, hts, hK, hRm, hret, hlk, hnm, hzz, hn9⟩ := C
  obtain ⟨hnl, hM⟩ := hM
  obtain ⟨hle, hM⟩ := hM _ _ _ _ hf
  have hN' : xN h' ≤ xN hF := hN
  have hS' : xS h' ≤ xS hF := hSl
  refine go_run hS hL h1 h2 hle (a9 := As.toArray) ?_ kk
  refine va_runSN (As := As) (rest := st) (n := n2) ⟨hx, hb, hml, hown, hts⟩ (hM l G hzz) ⟨va_cnB (host := host) n2 hts (good_ws wb.2.1) rfl rfl rfl (hK.2.2.2.2.2.1 _ w1) (hts _ wb.1) wb.2.2 ⟨Nat.le_trans hdd hRm.1, Nat.le_trans (show 8 + (nL2 + 11) + 64 * d2 ≤ 64 * d by omega) hRm.2.2.2⟩, hts _ w2, trivial⟩
    ⟨blindX _ _ _, fun U hU hW => ⟨rfl, by rw [hU]; exact hR.moved hW.alike, hK.moved hW (by rw [hU]; exact hS.1) (fun q z1 z2 => by rw [hU]; exact hS.2.1 q z1 z2)⟩⟩ rfl hn hL.2.1 rfl (lv_room hst) hd ⟨Nat.le_trans (by omega) hRm.2.1, Nat.le_trans (by omega) hRm.2.2.1⟩
theorem go_callI (C : xCx X cc y ret d z9 n9) (hM : MetX z9 y2 cc2 nL2 none inj d2 f) (hdd : d2 + 1 ≤ d) (wb : xCb y2 cc2 nL2 none n2) (wi : y2.name = "<init>") (w1 : Cond.methodLink y.cls idx y2 ∈ xtb) (w2 : Cond.instanceMethod y2 ∈ xtb) {b : Nat} (hf : f (.ref b :: As) h = some (v, h')) (hn : As.length = n2) (hst : cats st ≤ 8) (hN : xN h' ≤ xN (xEnd X).2) (hSl : xS h' ≤ xS (xEnd X).2) (hd : decode cc pc = .ok (.invokespecial idx, 3)) (kk : Go X (pc + 3) L ((inj v).toList ++ st) h') : Go X pc L (As.reverse ++ .ref b :: st) h := by
  obtain ⟨p, l, e, R, s, m, args, below, meth, c, G, h0, ov, hF, nL⟩ := X
  intro H locs ls hR hS hL h1 h2
  obtain ⟨hx, hb, hml, hown, hts, hK, hRm, hret, hlk, hnm, hzz, hn9⟩ := C
  obtain ⟨hnl, hM⟩ := hM
  obtain ⟨hle, hM⟩ := hM _ _ _ _ hf
  have hN' : xN h' ≤ xN hF := hN
  have hS' : xS h' ≤ xS hF := hSl
  refine go_run hS hL h1 h2 hle (a9 := (Value.ref b :: As).toArray) ?_ kk
  refine va_runI (As := As) (rest := st) (n := n2) ⟨hx, hb, hml, hown, hts⟩ (hM l G hzz) ⟨callB_of n2 hts (good_ws wb.2.1) rfl rfl rfl (hts _ wb.1) (hts _ w1) wb.2.2 ⟨Nat.le_trans hdd hRm.1, Nat.le_trans (show 8 + (nL2 + 11) + 64 * d2 ≤ 64 * d by omega) hRm.2.2.2⟩, wi, hts _ w2⟩
    ⟨blindX _ _ _, fun U hU hW => ⟨rfl, by rw [hU]; exact hR.moved hW.alike, hK.moved hW (by rw [hU]; exact hS.1) (fun q z1 z2 => by rw [hU]; exact hS.2.1 q z1 z2)⟩⟩ rfl hn hL.2.1 rfl (lv_room hst) hd ⟨Nat.le_trans (by omega) hRm.2.1, Nat.le_trans (by omega) hRm.2.2.1⟩
theorem go_callIN (C : xCx X cc y ret d z9 n9) (hM : MetX z9 y2 cc2 nL2 none inj d2 f) (hdd : d2 + 1 ≤ d) (wb : xCb y2 cc2 nL2 none n2) (wi : y2.name = "<init>") {host : String} (w1 : Cond.methodLinkNest y.cls idx y2 host ∈ xrs) (w2 : Cond.instanceMethod y2 ∈ xtb) {b : Nat} (hf : f (.ref b :: As) h = some (v, h')) (hn : As.length = n2) (hst : cats st ≤ 8) (hN : xN h' ≤ xN (xEnd X).2) (hSl : xS h' ≤ xS (xEnd X).2) (hd : decode cc pc = .ok (.invokespecial idx, 3)) (kk : Go X (pc + 3) L ((inj v).toList ++ st) h') : Go X pc L (As.reverse ++ .ref b :: st) h := by
  obtain ⟨p, l, e, R, s, m, args, below, meth, c, G, h0, ov, hF, nL⟩ := X
  intro H locs ls hR hS hL h1 h2
  obtain ⟨hx, hb, hml, hown, hts, hK, hRm, hret, hlk, hnm, hzz, hn9⟩ := C
  obtain ⟨hnl, hM⟩ := hM
  obtain ⟨hle, hM⟩ := hM _ _ _ _ hf
  have hN' : xN h' ≤ xN hF := hN
  have hS' : xS h' ≤ xS hF := hSl
  refine go_run hS hL h1 h2 hle (a9 := (Value.ref b :: As).toArray) ?_ kk
  refine va_runIN (As := As) (rest := st) (n := n2) ⟨hx, hb, hml, hown, hts⟩ (hM l G hzz) ⟨va_cnB (host := host) n2 hts (good_ws wb.2.1) rfl rfl rfl (hK.2.2.2.2.2.1 _ w1) (hts _ wb.1) wb.2.2 ⟨Nat.le_trans hdd hRm.1, Nat.le_trans (show 8 + (nL2 + 11) + 64 * d2 ≤ 64 * d by omega) hRm.2.2.2⟩, wi, hts _ w2⟩
    ⟨blindX _ _ _, fun U hU hW => ⟨rfl, by rw [hU]; exact hR.moved hW.alike, hK.moved hW (by rw [hU]; exact hS.1) (fun q z1 z2 => by rw [hU]; exact hS.2.1 q z1 z2)⟩⟩ rfl hn hL.2.1 rfl (lv_room hst) hd ⟨Nat.le_trans (by omega) hRm.2.1, Nat.le_trans (by omega) hRm.2.2.1⟩
/-- the empty constructor of all -/
theorem go_obj (C : xCx X cc y ret d z9 n9) (hd1 : 1 ≤ d) (w1 : Cond.methodLink y.cls idx Lib.objectInit ∈ xtb) (w2 : Cond.instanceMethod Lib.objectInit ∈ xtb) (w3 : Cond.code Lib.objectInit ⟨#[0xb1]⟩ 1 none ∈ xtb) {b : Nat} (hst : cats st ≤ 8) (hd : decode cc pc = .ok (.invokespecial idx, 3)) (kk : Go X (pc + 3) L st h) : Go X pc L (.ref b :: st) h := by
  obtain ⟨p, l, e, R, s, m, args, below, meth, c, G, h0, ov, hF, nL⟩ := X
  intro H locs ls hR hS hL h1 h2
  obtain ⟨hx, hb, hml, hown, hts, hK, hRm, hret, hlk, hnm, hzz, hn9⟩ := C
  refine W.objInit hx hb hown (hts _ w1) (hts _ w2) (hts _ w3) rfl (by rw [hml]; exact hL.2.1) rfl hd (Nat.le_trans hd1 hRm.1) (Nat.le_trans (show 2 * 0 + cats st + 12 ≤ 64 * d by omega) hRm.2.2.2) (kk H locs ls hR hS hL h1 h2)
theorem go_iret (C : xCx X cc y (some .int) d z9 n9) {v : Int32} (hfin : xEnd X = (some (.int v), h)) (hd : decode cc pc = .ok (.ireturn, 1)) : Go X pc L [.int v] h := by
  obtain ⟨p, l, e, R, s, m, args, below, meth, c, G, h0, ov, hF, nL⟩ := X
  intro H locs ls hR hS hL h1 h2
  obtain ⟨hx, hb, hml, hown, hts, hK, hRm, hret, hlk, hnm, hzz, hn9⟩ := C
  cases hfin
  exact W.iret hx hb hret (fun t ht hW => ⟨rfl, by rw [ht]; exact hR.moved hW.alike, hS.F ht⟩) hS.2.2 hd hlk
theorem go_zret (C : xCx X cc y (some .boolean) d z9 n9) {v : Int32} (hv : v = 0 ∨ v = 1) (hfin : xEnd X = (some (.int v), h)) (hd : decode cc pc = .ok (.ireturn, 1)) : Go X pc L [.int v] h := by
  obtain ⟨p, l, e, R, s, m, args, below, meth, c, G, h0, ov, hF, nL⟩ := X
  intro H locs ls hR hS hL h1 h2
  obtain ⟨hx, hb, hml, hown, hts, hK, hRm, hret, hlk, hnm, hzz, hn9⟩ := C
  cases hfin
  exact W.zret hx hb hret (by rcases hv with z | z <;> subst z <;> rfl) (fun t ht hW => ⟨rfl, by rw [ht]; exact hR.moved hW.alike, hS.F ht⟩) hS.2.2 hd hlk
theorem go_lret (C : xCx X cc y (some .long) d z9 n9) {v : Int64} (hfin : xEnd X = (some (.long v), h)) (hd : decode cc pc = .ok (.lreturn, 1)) : Go X pc L [.long v] h := by
  obtain ⟨p, l, e, R, s, m, args, below, meth, c, G, h0, ov, hF, nL⟩ := X
  intro H locs ls hR hS hL h1 h2
  obtain ⟨hx, hb, hml, hown, hts, hK, hRm, hret, hlk, hnm, hzz, hn9⟩ := C
  cases hfin
  exact W.lret hx hb hret (fun t ht hW => ⟨rfl, by rw [ht]; exact hR.moved hW.alike, hS.F ht⟩) hS.2.2 hd hlk
theorem go_vret (C : xCx X cc y none d z9 n9) (hfin : xEnd X = (none, h)) (hd : decode cc pc = .ok (.return_, 1)) : Go X pc L [] h := by
  obtain ⟨p, l, e, R, s, m, args, below, meth, c, G, h0, ov, hF, nL⟩ := X
  intro H locs ls hR hS hL h1 h2
  obtain ⟨hx, hb, hml, hown, hts, hK, hRm, hret, hlk, hnm, hzz, hn9⟩ := C
  cases hfin
  exact W.vret hx hb hret (fun t ht hW => ⟨rfl, by rw [ht]; exact hR.moved hW.alike, hS.F ht⟩) hS.2.2 hd hlk
theorem go_aret {rt : FieldType} (C : xCx X cc y (some rt) d z9 n9) (hrt : (∃ n, rt = .object n) ∨ ∃ t, rt = .array t) {r : Option Nat} (hfin : xEnd X = (some (va_rf r), h)) (hd : decode cc pc = .ok (.areturn, 1)) : Go X pc L [va_rf r] h := by
  obtain ⟨p, l, e, R, s, m, args, below, meth, c, G, h0, ov, hF, nL⟩ := X
  intro H locs ls hR hS hL h1 h2
  obtain ⟨hx, hb, hml, hown, hts, hK, hRm, hret, hlk, hnm, hzz, hn9⟩ := C
  cases hfin
  exact W.aret hx hb hret hrt (by cases r with | none => exact Or.inl rfl | some a => exact Or.inr ⟨a, rfl⟩) (fun t ht hW => ⟨rfl, by rw [ht]; exact hR.moved hW.alike, hS.F ht⟩) hS.2.2 hd hlk
/-- a method out of the walk of its body -/
theorem MetX.of (hy : plainName y.cls = true) (hnl : n9 ≤ 45) (hle : ∀ as h v h', f as h = some (v, h') → xN h ≤ xN h' ∧ xS h ≤ xS h') (hlen : ∀ as h v h', f as h = some (v, h') → (lay as).length ≤ n9)
    (body : ∀ X, xCx X cc y ret d z9 n9 → ∀ as h v h', f as h = some (v, h') → xEnd X = (inj v, h') → Go X 0 (lay as ++ List.replicate (n9 - (lay as).length) xD) [] h) : MetX z9 y cc n9 ret inj d f := by
  refine ⟨hnl, fun as h v h' hf => ⟨hle as h v h' hf, fun l G hz => ?_⟩⟩
  refine Met.ofW (cc := cc) (maxL := n9) (ret := ret) hy rfl ?_
  intro p e s m args below meth c s₁ B hml hv
  obtain ⟨rfl, hR, hK⟩ := hv
  have hts := atoms_spec (ws := Cond.code y cc n9 ret :: xtb) B.pre
  have hown : s.vm.findClass y.cls = some m.cls := findClass_of_methodNamed B.named
  have hlen := hlen as h v h' hf
  have := body (p, l, e, { frames := d, cells := xN h' - xN h, slots := xS h' - xS h, locals := 64 * d }, s, m, as.toArray, below, meth, c, G, h, inj v, h', n9) ⟨B.exec, B.bytes, hml, hown, fun w hw => hts w (List.mem_cons_of_mem _ hw), hK, ⟨Nat.le_refl _, Nat.le_refl _, Nat.le_refl _, Nat.le_refl _⟩, B.returns, B.notSynchronized, (name_of_methodNamed B.named B.method).1, hz, rfl⟩ as h v h' hf rfl s.heap [] _ hR va_S.rf (xLs.entry as (by omega)) (Nat.le_refl _) (Nat.le_refl _)
  rw [Nat.sub_self, Nat.sub_self] at this
  rw [lg_entry_eq]
  exact this
end CL
