/-! calls: a walk gives a contract; a contract gives a call -/
def PcM (X : SX) (D : va_G) (cA : Nat → ClassId) (ax ad : Nat → Nat) (sz : Nat) (σ : MSt) (args : List Value) : Array Value → State → Prop := fun a U =>
  a = (args.map (tr ad)).toArray ∧ U.heap.size = sz ∧ va_P D vwCl (wl ad cA σ.1 σ.2) U.heap ∧ va_K D vwCl (tys cA) U ∧ va_D (fun _ => True) (wl ad cA σ.1 σ.2) ∧ Ext X (va_A (wl ad cA σ.1 σ.2) sz) U ax U.heap ∧ ∀ w ∈ ntbl, va_Nw w U
def QcM (D : va_G) (cA : Nat → ClassId) (ax ad : Nat → Nat) (sz mc : Nat) (y : MI) (σ : MSt) (Q : Option Value → MSt → Prop) : Array Value → State → Outcome → State → Prop := fun _ st o t =>
  ∃ (r : Option Value) (σ' : MSt) (ad' : Nat → Nat), o = .returned r ∧ Q r σ' ∧ σ'.1.length ≤ 900 ∧ okl σ'.1 = true ∧ σ.1.length ≤ σ'.1.length ∧ (∀ i, 1000 ≤ i → ad' i = ax i) ∧ (∀ i, i < σ.1.length ∨ 1000 ≤ i → ad' i = ad i) ∧ (mc = 0 → ad' = ad) ∧
    va_P D vwCl (wl ad' cA σ'.1 σ'.2) t.heap ∧ va_D (va_A (wl ad cA σ.1 σ.2) sz) (wl ad' cA σ'.1 σ'.2) ∧ va_F (va_A (wl ad cA σ.1 σ.2) sz) st t ∧ ((r = none ∧ y.2.2.2 = none) ∨ ∃ x, r = some (.int x) ∧ y.2.2.2 ≠ none)
theorem PcM.blind {X : SX} {D : va_G} {cA : Nat → ClassId} {ax ad : Nat → Nat} {sz : Nat} {σ : MSt} {args : List Value} : FrameBlind (PcM X D cA ax ad sz σ args) := by
  intro a U g mk h
  obtain ⟨h1, h2, h3, h4, h5, h6, h7⟩ := h
  exact ⟨h1, h2, h3, va_K.moved (u := U) (U := U.calling g mk a) (Vm.Alike.refl U.vm) h4, h5, Ext.moved (u := U) (U := U.calling g mk a) (Vm.Alike.refl U.vm) h6, nt_same (u := U) (U := U.calling g mk a) rfl h7⟩
theorem Met.ofWF {l : Launch} {y : MethodName} {ws ws' : List Cond} {rm : Room} {Pc : Array Value → State → Prop} {Qc : Array Value → State → Outcome → State → Prop} {mc ms : Nat} {free : Addr → Prop} {cc : ByteArray} {maxL : Nat} {ret : Option FieldType}
    (hy : plainFor y = true) (hw : ws = Cond.code y cc maxL ret :: ws')
    (body : ∀ p e s m args below meth c s₁, BodyLoose p l y (headSpec ws rm) cc maxL ret e s m args below meth c s₁ → c.maxLocals = maxL → Pc args s →
      W p l e (headSpec ws rm).room s m args below meth c s.heap [] 0 0 (MQ below Qc args s mc ms free) (entryFrame m args maxL)) : Met l y ws rm Pc Qc mc ms free := by
  refine MetFree.of_bodySF (code := cc) (maxLocals := maxL) (ret := ret) hy ?_ ?_
  · intro args s m h hn
    obtain ⟨meth, c, h1, h2, h3, h4, h5, h6, -, -⟩ := Cond.code_spec hn (atoms_spec (ws := ws) h _ (by rw [hw]; exact List.mem_cons_self))
    exact ⟨meth, c, h1, h2, h3, h4, h5, h6⟩
  · intro p e s m args below meth c s₁ B hml hP _
    have hh0 : s₁.heap = s.heap := by rw [B.state]; rfl
    obtain ⟨t, a1, o, b1, b2, b3⟩ := body p e s m args below meth c s₁ B hml hP s₁ hh0 (Stand.of_body B)
    exact ⟨t, o, a1, b1, b2, ⟨b3.1, b3.2⟩⟩
def rmM (d mc ms : Nat) : Room := { frames := d, cells := mc, slots := ms, locals := 64 * d }
theorem Ev.met {X : SX} {d mc ms : Nat} {y : MI} {args : List Value} {σ : MSt} {Q : Option Value → MSt → Prop} (hp : plainFor y.1 = true) (hn : (enl args).length ≤ y.2.2.1) (hE : Ev X d mc ms y 0 (entl args y.2.2.1) [] σ Q)
    (l : Launch) (D : va_G) (cA : Nat → ClassId) (ax ad : Nat → Nat) (sz : Nat) (hlen : σ.1.length ≤ 900) (hok : okl σ.1 = true) (hax : ∀ i, 1000 ≤ i → ad i = ax i) :
    Met l y.1 (wsM y) (rmM d mc ms) (PcM X D cA ax ad sz σ args) (QcM D cA ax ad sz mc y σ Q) mc ms (va_A (wl ad cA σ.1 σ.2) sz) := by
  refine Met.ofWF (cc := y.2.1) (maxL := y.2.2.1) (ret := y.2.2.2) hp rfl ?_
  intro p e s m a below meth c s₁ B hml hv
  obtain ⟨rfl, hsz, hP, hK, hD0, hX, hnest⟩ := hv
  have hts := atoms_spec (ws := wsM y) B.pre
  subst hsz
  have hD := hD0.self (sz := s.heap.size)
  rw [lg_entry_eq]
  refine hE p l e (rmM d mc ms) s m _ below meth c (va_A (wl ad cA σ.1 σ.2) s.heap.size) ax cA D ⟨B.exec, B.bytes, hml, B.returns, B.notSynchronized, fun h => (name_of_methodNamed B.named B.method).1.trans h, findClass_of_methodNamed B.named, fun w hw => hts w (List.mem_cons_of_mem _ hw), hnest, Nat.le_refl _, Nat.le_refl _, hK, fun q h => Or.inr h, hX⟩ s.heap [] 0 0 _ ad _ ⟨hlen, hok, hax, hP, hD, va_S.rf⟩ (by simp [rmM]) (by simp [rmM]) (lr_entry ad args hn) ?_
  intro r σ' H' locs' cells' slots' ad' ls' pc' hQ hR' hc' hs' had h0 hlen2 hret
  refine W.widen (k := mc) (n := ms) (by omega) (by omega) ?_
  have hq : ∀ (t : State) (hr : (r = none ∧ y.2.2.2 = none) ∨ ∃ x, r = some (.int x) ∧ y.2.2.2 ≠ none), t.heap = H' → QcM D cA ax ad s.heap.size mc y σ Q (args.map (tr ad)).toArray s (.returned r) t := by
    intro t hr ht
    exact ⟨r, σ', ad', rfl, hQ, hR'.1, hR'.2.1, hlen2, hR'.2.2.1, had, h0, by rw [ht]; exact hR'.2.2.2.1, hR'.2.2.2.2.1, hR'.2.2.2.2.2.F ht, hr⟩
  match r, hret, hq with
  | none, hret, hq => exact W.vret B.exec B.bytes (B.returns.trans hret.1) (fun t ht _ => hq t (Or.inl ⟨rfl, hret.1⟩) ht) hR'.2.2.2.2.2.2.2 hret.2 B.notSynchronized
  | some (.int x), hret, hq =>
    obtain ⟨⟨ty, h1, h2⟩, h3⟩ := hret
    exact W.zret (v := x) B.exec B.bytes (B.returns.trans h1) h2 (fun t ht _ => hq t (Or.inr ⟨x, rfl, by rw [h1]; exact fun h => by cases h⟩) ht) hR'.2.2.2.2.2.2.2 h3 B.notSynchronized
section CALL
variable {X : SX} {d mc ms mc1 ms1 : Nat} {y y' : MI} {pc ix : Nat} {L st args : List Value} {σ : MSt} {Q Q1 : Option Value → MSt → Prop}
/-- what a method says of itself -/
def okM (y : MI) : Prop := plainFor y.1 = true ∧ Cond.code y.1 y.2.1 y.2.2.1 y.2.2.2 ∈ gtbl ∧ Cond.initialized y.1.cls ∈ gtbl ∧ (y.1.cls ≠ "java/lang/invoke/MethodHandle" ∧ y.1.cls ≠ "java/lang/invoke/VarHandle") ∧ y.2.2.1 ≤ 40
theorem goodM (h : okM y') : GoodIn gtbl (wsM y') := by
  intro w hw
  rcases List.mem_cons.mp hw with rfl | h1
  · exact ⟨h.2.1, gt_good _ h.2.1⟩
  · exact ⟨h1, gt_good _ h1⟩
theorem Ev.after {p : Program} {l : Launch} {e : Env} {R : Room} {s : State} {m : MethodId} {args' : Array Value} {below : List Frame} {meth : Method} {c : Code} {A : Nat → Prop} {ax : Nat → Nat} {cA : Nat → ClassId} {D : va_G} {H : Heap} {locs : List Loc} {cells slots : Nat} {Qw : State → Prop} {ad : Nat → Nat} {ls : Array Slot} {st0 : List Value} {a : Array Value}
    (C : Cx X y (d + 1) p R s m args' meth c A ax cA D) (hR : Rl A ax cA D s ad σ H locs) (hc : cells + (mc1 + mc) ≤ R.cells) (hs : slots + (ms1 + ms) ≤ R.slots) (hL : lr ad ls y.2.2.1 L)
    (K : ∀ (r : Option Value) (σ' : MSt) (H' : Heap) (locs' : List Loc) (cells' slots' : Nat) (ad' : Nat → Nat) (ls' : Array Slot) (pc' : Nat), Q r σ' → Rl A ax cA D s ad' σ' H' locs' → cells' ≤ cells + (mc1 + mc) → slots' ≤ slots + (ms1 + ms) → (∀ i, i < σ.1.length ∨ 1000 ≤ i → ad' i = ad i) → (mc1 + mc = 0 → ad' = ad) → σ.1.length ≤ σ'.1.length → RetAt y pc' r →
      W p l e R s m args' below meth c H' locs' cells' slots' Qw (F0 m pc' ls' r.toList))
    (hok : mc1 = 0 ∨ (L ++ st).all (okv σ.1.length) = true)
    (cont : ∀ r σ', Q1 r σ' → ((r = none ∧ y'.2.2.2 = none) ∨ ∃ x, r = some (.int x) ∧ y'.2.2.2 ≠ none) → Ev X (d + 1) mc ms y (pc + 3) L (r.toList ++ st) σ' Q)
    (hr : va_Run p l e R s m args' below meth c H locs cells slots mc1 ms1 (F0 m pc ls st0) (st.map (tr ad)) (QcM D cA ax ad H.size mc1 y' σ Q1 a) (va_A (wl ad cA σ.1 σ.2) H.size)) :
    W p l e R s m args' below meth c H locs cells slots Qw (F0 m pc ls st0) := by
  intro T hT X0
  obtain ⟨v, st₀, t, T', Lc, h0, X', hLc, e1, e2, ⟨r, σ', ad', hv, hq, hlen, hok', hle, hax, had, ham, hP, hD, hF, hsh⟩, go⟩ := hr T hT X0
  cases hv
  have hA : ∀ q, va_A (wl ad cA σ.1 σ.2) H.size q → A q := by
    intro q hq
    rcases hq with ⟨k, ee, h⟩ | h
    · exact hR.2.2.2.2.1.2 k (q, ee) h
    · exact C.2.2.2.2.2.2.2.2.2.2.2.2.1 q (Nat.le_trans hR.2.2.2.2.2.1 h)
  have hS1 : va_S A s.heap T'.heap (locs ++ Lc) := by
    have hS := hR.2.2.2.2.2
    rw [e1]
    rw [va_F, h0] at hF
    refine ⟨Nat.le_trans hS.1 hF.1, fun q h1 h2 => ?_, fun q hq => ?_⟩
    · rw [hF.2 q (Nat.lt_of_lt_of_le h1 hS.1) (fun z => h2 (hA q z))]; exact hS.2.1 q h1 h2
    · rcases List.mem_append.mp hq with h | h
      · exact hS.2.2 q h
      · exact hA _ (hLc q h)
  have hst : st.map (tr ad') = st.map (tr ad) := by
    rcases hok with h | h
    · rw [ham h]
    · exact st_ok (Bool.and_eq_true_iff.mp (by rw [← List.all_append]; exact h)).2 had
  have hL' : lr ad' ls y.2.2.1 L := by
    rcases hok with h | h
    · rw [ham h]; exact hL
    · exact lr_ok (Bool.and_eq_true_iff.mp (by rw [← List.all_append]; exact h)).1 had hL
  have hrt : (v.toList ++ st).map (tr ad') = v.toList ++ st.map (tr ad) := by
    rw [List.map_append, hst]
    congr 1
    rcases hsh with ⟨rfl, -⟩ | ⟨x, rfl, -⟩ <;> rfl
  have hW : W p l e R s m args' below meth c T'.heap (locs ++ Lc) (cells + mc1) (slots + ms1) Qw (F0 m (pc + 3) ls (v.toList ++ st.map (tr ad))) := by
    rw [← hrt]
    refine cont v σ' hq hsh p l e R s m args' below meth c A ax cA D C T'.heap (locs ++ Lc) (cells + mc1) (slots + ms1) Qw ad' ls ⟨hlen, hok', hax, by rw [e1]; exact hP, ⟨hD.1, fun k q hk => hA _ (hD.2 k q hk)⟩, hS1⟩ (by omega) (by omega) hL' ?_
    intro r2 σ2 H2 locs2 cells2 slots2 ad2 ls2 pc2 hQ2 hR2 hc2 hs2 had2 h02 hle2 hret2
    exact K r2 σ2 H2 locs2 cells2 slots2 ad2 ls2 pc2 hQ2 hR2 (by omega) (by omega) (fun i hi => by rw [had2 i (by omega), had i hi]) (fun h => by rw [h02 (by omega), ham (by omega)]) (by omega) hret2
  obtain ⟨t2, a1, b1⟩ := hW T' rfl X'
  exact ⟨t2, go _ a1, b1⟩
theorem Ev.pre {p : Program} {R : Room} {s : State} {m : MethodId} {args' : Array Value} {meth : Method} {c : Code} {A : Nat → Prop} {ax : Nat → Nat} {cA : Nat → ClassId} {D : va_G} {H : Heap} {locs : List Loc} {ad : Nat → Nat}
    (C : Cx X y (d + 1) p R s m args' meth c A ax cA D) (hR : Rl A ax cA D s ad σ H locs) : ∀ U : State, U.heap = H → s.WarmedH U.vm → PcM X D cA ax ad H.size σ args (args.map (tr ad)).toArray U := by
  intro U hU hW
  have hS := hR.2.2.2.2.2
  have hA : ∀ q, va_A (wl ad cA σ.1 σ.2) H.size q → A q := by
    intro q hq
    rcases hq with ⟨k, ee, h⟩ | h
    · exact hR.2.2.2.2.1.2 k (q, ee) h
    · exact C.2.2.2.2.2.2.2.2.2.2.2.2.1 q (Nat.le_trans hS.1 h)
  refine ⟨rfl, by rw [hU], by rw [hU]; exact hR.2.2.2.1, va_K.moved hW.alike C.kk, ⟨hR.2.2.2.2.1.1, fun _ _ _ => trivial⟩, ?_, nt_warm hW C.2.2.2.2.2.2.2.2.1⟩
  rw [hU]
  exact Ext.moved hW.alike ((Ext.kept C.ext (fun a h1 h2 => hS.2.1 a h1 h2)).narrow hA)
theorem rm_ok {p : Program} {R : Room} {s : State} {m : MethodId} {args' : Array Value} {meth : Method} {c : Code} {A : Nat → Prop} {ax : Nat → Nat} {cA : Nat → ClassId} {D : va_G} (C : Cx X y (d + 1) p R s m args' meth c A ax cA D) (h : okM y') : (rmM d mc1 ms1).frames + 1 ≤ R.frames ∧ 8 + (y'.2.2.1 + 11) + (rmM d mc1 ms1).locals ≤ R.locals := by
  have hfr := C.2.2.2.2.2.2.2.2.2.1
  have hlo := C.2.2.2.2.2.2.2.2.2.2.1
  have := h.2.2.2.2
  simp only [rmM]
  omega
theorem cat_ok {ad : Nat → Nat} {m : MethodId} {ls : Array Slot} {st0 : List Value} (h : (st.map (fun v => v.category)).sum ≤ 8) : 2 * (F0 m pc ls st0).monitorRoom + ((st.map (tr ad)).map fun v => v.category).sum ≤ 8 := by
  refine lv_room (rest := st0) ?_
  rw [List.map_map]
  simpa [Function.comp_def, tr_cat] using h
theorem Ev.callS {n : Nat} (hd : decode y.2.1 pc = .ok (.invokestatic ix, 3)) (hM : okM y') (hw1 : Cond.methodLink y.1.cls ix y'.1 ∈ gtbl) (hw2 : Cond.static y'.1 ∈ gtbl) (hn : args.length = n) (hds : (parseMethodDescriptor y'.1.desc).map (fun d => d.parameters.length) = some n) (hen : (enl args).length ≤ y'.2.2.1) (hcat : (st.map (fun v => v.category)).sum ≤ 8)
    (hok : mc1 = 0 ∨ (L ++ st).all (okv σ.1.length) = true) (kk : Ev X d mc1 ms1 y' 0 (entl args y'.2.2.1) [] σ Q1)
    (cont : ∀ r σ', Q1 r σ' → ((r = none ∧ y'.2.2.2 = none) ∨ ∃ x, r = some (.int x) ∧ y'.2.2.2 ≠ none) → Ev X (d + 1) mc ms y (pc + 3) L (r.toList ++ st) σ' Q) : Ev X (d + 1) (mc1 + mc) (ms1 + ms) y pc L (args.reverse ++ st) σ Q := by
  intro p l e R s m args' below meth c A ax cA D C H locs cells slots Qw ad ls hR hc hs hL K
  refine Ev.after C hR hc hs hL K hok cont (a := (args.map (tr ad)).toArray) ?_
  have hg : ∀ w ∈ gtbl, w.before args' s = true := C.tbl
  exact va_runS (Ts := gtbl) (own := y.1.cls) (As := args.map (tr ad)) ⟨C.1, C.2.1, C.2.2.1, C.own, C.tbl⟩ (Ev.met hM.1 hen kk l D cA ax ad H.size hR.1 hR.2.1 hR.2.2.1)
    ⟨callB_of n hg (goodM hM) rfl rfl rfl (C.w hM.2.2.1) (C.w hw1) ⟨hM.2.2.2.1.1, hM.2.2.2.1.2, hds⟩ (rm_ok C hM), C.w hw2⟩ ⟨PcM.blind, Ev.pre C hR⟩ rfl (by simpa using hn) hL.1 (by simp) (cat_ok hcat) hd ⟨by omega, by omega⟩
theorem Ev.callSN {n : Nat} {host : String} (hd : decode y.2.1 pc = .ok (.invokestatic ix, 3)) (hM : okM y') (hw1 : Cond.methodLinkNest y.1.cls ix y'.1 host ∈ ntbl) (hw2 : Cond.static y'.1 ∈ gtbl) (hn : args.length = n) (hds : (parseMethodDescriptor y'.1.desc).map (fun d => d.parameters.length) = some n) (hen : (enl args).length ≤ y'.2.2.1) (hcat : (st.map (fun v => v.category)).sum ≤ 8)
    (hok : mc1 = 0 ∨ (L ++ st).all (okv σ.1.length) = true) (kk : Ev X d mc1 ms1 y' 0 (entl args y'.2.2.1) [] σ Q1)
    (cont : ∀ r σ', Q1 r σ' → ((r = none ∧ y'.2.2.2 = none) ∨ ∃ x, r = some (.int x) ∧ y'.2.2.2 ≠ none) → Ev X (d + 1) mc ms y (pc + 3) L (r.toList ++ st) σ' Q) : Ev X (d + 1) (mc1 + mc) (ms1 + ms) y pc L (args.reverse ++ st) σ Q := by
  intro p l e R s m args' below meth c A ax cA D C H locs cells slots Qw ad ls hR hc hs hL K
  refine Ev.after C hR hc hs hL K hok cont (a := (args.map (tr ad)).toArray) ?_
  have hg : ∀ w ∈ gtbl, w.before args' s = true := C.tbl
  exact va_runSN (Ts := gtbl) (own := y.1.cls) (As := args.map (tr ad)) ⟨C.1, C.2.1, C.2.2.1, C.own, C.tbl⟩ (Ev.met hM.1 hen kk l D cA ax ad H.size hR.1 hR.2.1 hR.2.2.1)
    ⟨va_cnB n hg (goodM hM) rfl rfl rfl (C.2.2.2.2.2.2.2.2.1 _ hw1) (C.w hM.2.2.1) ⟨hM.2.2.2.1.1, hM.2.2.2.1.2, hds⟩ (rm_ok C hM), C.w hw2, trivial⟩ ⟨PcM.blind, Ev.pre C hR⟩ rfl (by simpa using hn) hL.1 (by simp) (cat_ok hcat) hd ⟨by omega, by omega⟩
theorem Ev.callV {n id ci : Nat} {q : vw_C} {ks : List (Option (Option Nat))} (hd : decode y.2.1 pc = .ok (.invokevirtual ix, 3)) (hM : okM y') (hlay : σ.1[id]? = some (.inl (ci, ks))) (hcl : vwCl[ci]? = some q) (hq : q.1 = y'.1.cls) (hw1 : Cond.methodLink y.1.cls ix y'.1 ∈ gtbl) (hw2 : Cond.instanceMethod y'.1 ∈ gtbl) (hw3 : Cond.selects y'.1.cls y'.1 y'.1 ∈ gtbl) (hn : args.length = n) (hds : (parseMethodDescriptor y'.1.desc).map (fun d => d.parameters.length) = some n) (hen : (enl (.ref id :: args)).length ≤ y'.2.2.1) (hcat : (st.map (fun v => v.category)).sum ≤ 8)
    (hok : mc1 = 0 ∨ (L ++ st).all (okv σ.1.length) = true) (kk : Ev X d mc1 ms1 y' 0 (entl (.ref id :: args) y'.2.2.1) [] σ Q1)
    (cont : ∀ r σ', Q1 r σ' → ((r = none ∧ y'.2.2.2 = none) ∨ ∃ x, r = some (.int x) ∧ y'.2.2.2 ≠ none) → Ev X (d + 1) mc ms y (pc + 3) L (r.toList ++ st) σ' Q) : Ev X (d + 1) (mc1 + mc) (ms1 + ms) y pc L (args.reverse ++ .ref id :: st) σ Q := by
  intro p l e R s m args' below meth c A ax cA D C H locs cells slots Qw ad ls hR hc hs hL K
  refine Ev.after C hR hc hs hL K hok cont (a := ((Value.ref id :: args).map (tr ad)).toArray) ?_
  have hg : ∀ w ∈ gtbl, w.before args' s = true := C.tbl
  have hrc := va_recv C.kk hR.2.2.2.1 hcl (wl_get (ad := ad) (cA := cA) (h := σ.2) hlay)
  rw [hq] at hrc
  exact va_runV (Ts := gtbl) (own := y.1.cls) (C := y'.1.cls) (b := ad id) (As := args.map (tr ad)) ⟨C.1, C.2.1, C.2.2.1, C.own, C.tbl⟩ (Ev.met hM.1 hen kk l D cA ax ad H.size hR.1 hR.2.1 hR.2.2.1)
    ⟨callB_of n hg (goodM hM) rfl rfl rfl (C.w hM.2.2.1) (C.w hw1) ⟨hM.2.2.2.1.1, hM.2.2.2.1.2, hds⟩ (rm_ok C hM), C.w hw2, C.w hw3⟩ ⟨PcM.blind, hrc, Ev.pre C hR⟩ rfl (by simpa using hn) hL.1 (by simp [tr]) (cat_ok hcat) hd ⟨by omega, by omega⟩
theorem Ev.callI {n id : Nat} (hd : decode y.2.1 pc = .ok (.invokespecial ix, 3)) (hM : okM y') (hy : y'.1.name = "<init>") (hrt : y'.2.2.2 = none) (hw1 : Cond.methodLink y.1.cls ix y'.1 ∈ gtbl) (hw2 : Cond.instanceMethod y'.1 ∈ gtbl) (hn : args.length = n) (hds : (parseMethodDescriptor y'.1.desc).map (fun d => d.parameters.length) = some n) (hen : (enl (.ref id :: args)).length ≤ y'.2.2.1) (hcat : (st.map (fun v => v.category)).sum ≤ 8)
    (hok : mc1 = 0 ∨ (L ++ st).all (okv σ.1.length) = true) (kk : Ev X d mc1 ms1 y' 0 (entl (.ref id :: args) y'.2.2.1) [] σ Q1)
    (cont : ∀ r σ', Q1 r σ' → ((r = none ∧ y'.2.2.2 = none) ∨ ∃ x, r = some (.int x) ∧ y'.2.2.2 ≠ none) → Ev X (d + 1) mc ms y (pc + 3) L (r.toList ++ st) σ' Q) : Ev X (d + 1) (mc1 + mc) (ms1 + ms) y pc L (args.reverse ++ .ref id :: st) σ Q := by
  intro p l e R s m args' below meth c A ax cA D C H locs cells slots Qw ad ls hR hc hs hL K
  refine Ev.after C hR hc hs hL K hok cont (a := ((Value.ref id :: args).map (tr ad)).toArray) ?_
  have hg : ∀ w ∈ gtbl, w.before args' s = true := C.tbl
  have hw : wsM y' = Cond.code y'.1 y'.2.1 y'.2.2.1 none :: gtbl := by rw [← hrt]; rfl
  exact va_runI (Ts := gtbl) (own := y.1.cls) (b := ad id) (As := args.map (tr ad)) ⟨C.1, C.2.1, C.2.2.1, C.own, C.tbl⟩ (Ev.met hM.1 hen kk l D cA ax ad H.size hR.1 hR.2.1 hR.2.2.1)
    ⟨callB_of n hg (goodM hM) hw rfl rfl (C.w hM.2.2.1) (C.w hw1) ⟨hM.2.2.2.1.1, hM.2.2.2.1.2, hds⟩ (rm_ok C hM), hy, C.w hw2⟩ ⟨PcM.blind, Ev.pre C hR⟩ rfl (by simpa using hn) hL.1 (by simp [tr]) (cat_ok hcat) hd ⟨by omega, by omega⟩
theorem Ev.callIN {n id : Nat} {host : String} (hd : decode y.2.1 pc = .ok (.invokespecial ix, 3)) (hM : okM y') (hy : y'.1.name = "<init>") (hrt : y'.2.2.2 = none) (hw1 : Cond.methodLinkNest y.1.cls ix y'.1 host ∈ ntbl) (hw2 : Cond.instanceMethod y'.1 ∈ gtbl) (hn : args.length = n) (hds : (parseMethodDescriptor y'.1.desc).map (fun d => d.parameters.length) = some n) (hen : (enl (.ref id :: args)).length ≤ y'.2.2.1) (hcat : (st.map (fun v => v.category)).sum ≤ 8)
    (hok : mc1 = 0 ∨ (L ++ st).all (okv σ.1.length) = true) (kk : Ev X d mc1 ms1 y' 0 (entl (.ref id :: args) y'.2.2.1) [] σ Q1)
    (cont : ∀ r σ', Q1 r σ' → ((r = none ∧ y'.2.2.2 = none) ∨ ∃ x, r = some (.int x) ∧ y'.2.2.2 ≠ none) → Ev X (d + 1) mc ms y (pc + 3) L (r.toList ++ st) σ' Q) : Ev X (d + 1) (mc1 + mc) (ms1 + ms) y pc L (args.reverse ++ .ref id :: st) σ Q := by
  intro p l e R s m args' below meth c A ax cA D C H locs cells slots Qw ad ls hR hc hs hL K
  refine Ev.after C hR hc hs hL K hok cont (a := ((Value.ref id :: args).map (tr ad)).toArray) ?_
  have hg : ∀ w ∈ gtbl, w.before args' s = true := C.tbl
  have hw : wsM y' = Cond.code y'.1 y'.2.1 y'.2.2.1 none :: gtbl := by rw [← hrt]; rfl
  exact va_runIN (Ts := gtbl) (own := y.1.cls) (b := ad id) (As := args.map (tr ad)) ⟨C.1, C.2.1, C.2.2.1, C.own, C.tbl⟩ (Ev.met hM.1 hen kk l D cA ax ad H.size hR.1 hR.2.1 hR.2.2.1)
    ⟨va_cnB n hg (goodM hM) hw rfl rfl (C.2.2.2.2.2.2.2.2.1 _ hw1) (C.w hM.2.2.1) ⟨hM.2.2.2.1.1, hM.2.2.2.1.2, hds⟩ (rm_ok C hM), hy, C.w hw2⟩ ⟨PcM.blind, Ev.pre C hR⟩ rfl (by simpa using hn) hL.1 (by simp [tr]) (cat_ok hcat) hd ⟨by omega, by omega⟩
end CALL
