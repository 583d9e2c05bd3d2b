/-! words: those that any callee keeps, and those of nest mates -/
def gtbl : List Cond := lw_tbl.filter goodWord
def isNest : Cond → Bool
  | .methodLinkNest _ _ _ _ => true
  | .fieldLinkNest _ _ _ _ _ _ => true
  | _ => false
def ntbl : List Cond := tables_1.filter isNest
def wsM (y : MI) : List Cond := Cond.code y.1 y.2.1 y.2.2.1 y.2.2.2 :: gtbl
theorem gt_of {w : Cond} (h : w ∈ lw_tbl) (g : goodWord w = true) : w ∈ gtbl := List.mem_filter.mpr ⟨h, g⟩
theorem gt_at {w : Cond} (i : Nat) (h : lw_tbl[i]? = some w) (g : goodWord w = true) : w ∈ gtbl := gt_of (List.mem_of_getElem? h) g
theorem gt_good : ∀ w ∈ gtbl, (w.onTables && w.keeps) = true ∨ ∃ ty, w = .arrayClass ty := fun _ h => good_of_word (List.mem_filter.mp h).2
theorem nt_warm {s U : State} (hW : s.WarmedH U.vm) (h : ∀ w ∈ ntbl, va_Nw w s) : ∀ w ∈ ntbl, va_Nw w U := by
  intro w hw
  have hn := (List.mem_filter.mp hw).2
  have h0 := h w hw
  cases w <;> simp only [isNest] at hn <;> first | (cases hn; done) | exact va_Nw.warmM hW h0 | exact va_Nw.warmF hW h0
theorem nt_tab {w : Cond} (h : isNest w = true) : w.onTables = true := by cases w <;> first | rfl | (simp [isNest] at h)
theorem nt_same {u U : State} (hv : u.vm = U.vm) (h : ∀ w ∈ ntbl, va_Nw w u) : ∀ w ∈ ntbl, va_Nw w U := fun w hw => va_Nw.same (nt_tab (List.mem_filter.mp hw).2) hv (h w hw)
def tys (cA : Nat → ClassId) : List (ClassId × FieldType) := [(cA 0, .int), (cA 1, .long), (cA 2, .boolean)]
def kAbove (j : Nat) : Int32 := [-1, 0, 1, 0, 0, 4].getD j 0
def kBodies (j : Nat) : Int32 := [10, 11, 12, 13, 0, 20, 0, 21, 30, 31, 0, 0, 0, 0, 40, 0, 51, 0, 50, 0, 0, 0, 61, 60].getD j 0
def kPows (j : Nat) : Int64 := [177147, 59049, 19683, 6561, 2187, 729, 243, 81, 27, 9, 3, 1].getD j 0
def Ext (X : SX) (A : Nat → Prop) (U : State) (ax : Nat → Nat) (H : Heap) : Prop :=
  va_T .int (ax 1000) 6 (fun j => .int (kAbove j)) A U H ∧ va_T .int (ax 1001) 24 (fun j => .int (kBodies j)) A U H ∧ va_T .long (ax 1002) 12 (fun j => .long (kPows j)) A U H ∧ va_T .int (ax 1003) X.1 (fun j => .int (X.2 j)) A U H ∧
  va_Z "FamineCode" "KIND_ABOVE" "[I" (.ref (ax 1000)) A U H ∧ va_Z "FamineCode$Acts" "BODIES" "[I" (.ref (ax 1001)) A U H ∧ va_Z "FamineCode$Carts" "POWERS_OF_3" "[J" (.ref (ax 1002)) A U H
theorem Ext.moved {X : SX} {A : Nat → Prop} {u U : State} {ax : Nat → Nat} {H : Heap} (hvm : u.vm.Alike U.vm) (h : Ext X A u ax H) : Ext X A U ax H :=
  ⟨h.1.moved hvm, h.2.1.moved hvm, h.2.2.1.moved hvm, h.2.2.2.1.moved hvm, h.2.2.2.2.1.moved hvm, h.2.2.2.2.2.1.moved hvm, h.2.2.2.2.2.2.moved hvm⟩
theorem Ext.kept {X : SX} {A : Nat → Prop} {U : State} {ax : Nat → Nat} {H H1 : Heap} (h : Ext X A U ax H) (hq : ∀ a : Nat, a < H.size → ¬ A a → H1[a]? = H[a]?) : Ext X A U ax H1 :=
  ⟨h.1.kept hq, h.2.1.kept hq, h.2.2.1.kept hq, h.2.2.2.1.kept hq, h.2.2.2.2.1.kept hq, h.2.2.2.2.2.1.kept hq, h.2.2.2.2.2.2.kept hq⟩
theorem Ext.narrow {X : SX} {A B : Nat → Prop} {U : State} {ax : Nat → Nat} {H : Heap} (h : Ext X A U ax H) (hAB : ∀ q, B q → A q) : Ext X B U ax H :=
  ⟨h.1.narrow hAB, h.2.1.narrow hAB, h.2.2.1.narrow hAB, h.2.2.2.1.narrow hAB, h.2.2.2.2.1.narrow hAB, h.2.2.2.2.2.1.narrow hAB, h.2.2.2.2.2.2.narrow hAB⟩
/-- what stays over a method's body: the machine, its code, the words -/
def Cx (X : SX) (y : MI) (d : Nat) (p : Program) (R : Room) (s : State) (m : MethodId) (args : Array Value) (meth : Method) (c : Code) (A : Nat → Prop) (ax : Nat → Nat) (cA : Nat → ClassId) (D : va_G) : Prop :=
  p.tables.exec = Jvm.exec ∧ c.code = y.2.1 ∧ c.maxLocals = y.2.2.1 ∧ meth.sig.returnType = y.2.2.2 ∧ meth.locks = false ∧ (y.1.name = "<init>" → meth.name = "<init>") ∧ s.vm.findClass y.1.cls = some m.cls ∧
  (∀ w ∈ gtbl, w.before args s = true) ∧ (∀ w ∈ ntbl, va_Nw w s) ∧ d ≤ R.frames ∧ 64 * d ≤ R.locals ∧ va_K D vwCl (tys cA) s ∧ (∀ q, s.heap.size ≤ q → A q) ∧ Ext X A s ax s.heap
/-- the world -/
def Rl (A : Nat → Prop) (ax : Nat → Nat) (cA : Nat → ClassId) (D : va_G) (s : State) (ad : Nat → Nat) (σ : MSt) (H : Heap) (locs : List Loc) : Prop :=
  σ.1.length ≤ 900 ∧ okl σ.1 = true ∧ (∀ i, 1000 ≤ i → ad i = ax i) ∧ va_P D vwCl (wl ad cA σ.1 σ.2) H ∧ va_D A (wl ad cA σ.1 σ.2) ∧ va_S A s.heap H locs
def RetAt (y : MI) (pc : Nat) : Option Value → Prop
  | none => y.2.2.2 = none ∧ decode y.2.1 pc = .ok (.return_, 1)
  | some (.int x) => (∃ ty, y.2.2.2 = some ty ∧ narrow ty (.int x) = .int x) ∧ decode y.2.1 pc = .ok (.ireturn, 1)
  | _ => False
/-- from here the method returns, with at most d frames above it, mc new cells of ms slots; Q holds of its answer and of the heap then -/
def Ev (X : SX) (d mc ms : Nat) (y : MI) (pc : Nat) (L st : List Value) (σ : MSt) (Q : Option Value → MSt → Prop) : Prop :=
  ∀ (p : Program) (l : Launch) (e : Env) (R : Room) (s : State) (m : MethodId) (args : Array Value) (below : List Frame) (meth : Method) (c : Code) (A : Nat → Prop) (ax : Nat → Nat) (cA : Nat → ClassId) (D : va_G),
    Cx X y d p R s m args meth c A ax cA D → ∀ (H : Heap) (locs : List Loc) (cells slots : Nat) (Qw : State → Prop) (ad : Nat → Nat) (ls : Array Slot),
    Rl A ax cA D s ad σ H locs → cells + mc ≤ R.cells → slots + ms ≤ R.slots → lr ad ls y.2.2.1 L →
    (∀ (r : Option Value) (σ' : MSt) (H' : Heap) (locs' : List Loc) (cells' slots' : Nat) (ad' : Nat → Nat) (ls' : Array Slot) (pc' : Nat), Q r σ' → Rl A ax cA D s ad' σ' H' locs' → cells' ≤ cells + mc → slots' ≤ slots + ms → (∀ i, i < σ.1.length ∨ 1000 ≤ i → ad' i = ad i) → (mc = 0 → ad' = ad) → σ.1.length ≤ σ'.1.length → RetAt y pc' r →
      W p l e R s m args below meth c H' locs' cells' slots' Qw (F0 m pc' ls' r.toList)) →
    W p l e R s m args below meth c H locs cells slots Qw (F0 m pc ls (st.map (tr ad)))
theorem Cx.own {X : SX} {y : MI} {d : Nat} {p : Program} {R : Room} {s : State} {m : MethodId} {args : Array Value} {meth : Method} {c : Code} {A : Nat → Prop} {ax : Nat → Nat} {cA : Nat → ClassId} {D : va_G} (C : Cx X y d p R s m args meth c A ax cA D) : s.vm.findClass y.1.cls = some m.cls := C.2.2.2.2.2.2.1
theorem Cx.tbl {X : SX} {y : MI} {d : Nat} {p : Program} {R : Room} {s : State} {m : MethodId} {args : Array Value} {meth : Method} {c : Code} {A : Nat → Prop} {ax : Nat → Nat} {cA : Nat → ClassId} {D : va_G} (C : Cx X y d p R s m args meth c A ax cA D) : ∀ w ∈ gtbl, w.before args s = true := C.2.2.2.2.2.2.2.1
theorem Cx.w {X : SX} {y : MI} {d : Nat} {p : Program} {R : Room} {s : State} {m : MethodId} {args : Array Value} {meth : Method} {c : Code} {A : Nat → Prop} {ax : Nat → Nat} {cA : Nat → ClassId} {D : va_G} (C : Cx X y d p R s m args meth c A ax cA D) {w : Cond} (h : w ∈ gtbl) : w.before args s = true := C.2.2.2.2.2.2.2.1 w h
theorem Cx.kk {X : SX} {y : MI} {d : Nat} {p : Program} {R : Room} {s : State} {m : MethodId} {args : Array Value} {meth : Method} {c : Code} {A : Nat → Prop} {ax : Nat → Nat} {cA : Nat → ClassId} {D : va_G} (C : Cx X y d p R s m args meth c A ax cA D) : va_K D vwCl (tys cA) s := C.2.2.2.2.2.2.2.2.2.2.2.1
section EV
variable {X : SX} {d mc ms : Nat} {y : MI} {pc : Nat} {L st : List Value} {σ : MSt} {Q : Option Value → MSt → Prop}
theorem Ev.cons {Q' : Option Value → MSt → Prop} (h : Ev X d mc ms y pc L st σ Q') (hq : ∀ r σ', Q' r σ' → Q r σ') : Ev X d mc ms y pc L st σ Q := by
  intro p l e R s m args below meth c A ax cA D C H locs cells slots Qw ad ls hR hc hs hL K
  exact h p l e R s m args below meth c A ax cA D C H locs cells slots Qw ad ls hR hc hs hL (fun r σ' H' locs' cells' slots' ad' ls' pc' hQ => K r σ' H' locs' cells' slots' ad' ls' pc' (hq r σ' hQ))
theorem Ev.ireturn {x : Int32} (hd : decode y.2.1 pc = .ok (.ireturn, 1)) {ty : FieldType} (ht : y.2.2.2 = some ty) (hn : narrow ty (.int x) = .int x) (hq : Q (some (.int x)) σ) : Ev X d mc ms y pc L [.int x] σ Q := by
  intro p l e R s m args below meth c A ax cA D C H locs cells slots Qw ad ls hR hc hs hL K
  exact K (some (.int x)) σ H locs cells slots ad ls pc hq hR (by omega) (by omega) (fun _ _ => rfl) (fun _ => rfl) (Nat.le_refl _) ⟨⟨ty, ht, hn⟩, hd⟩
theorem Ev.return_ (hd : decode y.2.1 pc = .ok (.return_, 1)) (ht : y.2.2.2 = none) (hq : Q none σ) : Ev X d mc ms y pc L [] σ Q := by
  intro p l e R s m args below meth c A ax cA D C H locs cells slots Qw ad ls hR hc hs hL K
  exact K none σ H locs cells slots ad ls pc hq hR (by omega) (by omega) (fun _ _ => rfl) (fun _ => rfl) (Nat.le_refl _) ⟨ht, hd⟩
theorem Ev.iconst {n : Int} {v : Int32} (hd : decode y.2.1 pc = .ok (.iconst n, 1)) (hv : Int32.ofInt n = v) (kk : Ev X d mc ms y (pc + 1) L (.int v :: st) σ Q) : Ev X d mc ms y pc L st σ Q := by
  intro p l e R s m args below meth c A ax cA D C H locs cells slots Qw ad ls hR hc hs hL K
  exact lv_iconst C.1 C.2.1 hd hv (kk p l e R s m args below meth c A ax cA D C H locs cells slots Qw ad ls hR hc hs hL K)
theorem Ev.bipush {n : Int} {v : Int32} (hd : decode y.2.1 pc = .ok (.bipush n, 2)) (hv : (Int8.ofInt n).toInt32 = v) (kk : Ev X d mc ms y (pc + 2) L (.int v :: st) σ Q) : Ev X d mc ms y pc L st σ Q := by
  intro p l e R s m args below meth c A ax cA D C H locs cells slots Qw ad ls hR hc hs hL K
  exact lv_bipush C.1 C.2.1 hd hv (kk p l e R s m args below meth c A ax cA D C H locs cells slots Qw ad ls hR hc hs hL K)
theorem Ev.sipush {n : Int} {v : Int32} (hd : decode y.2.1 pc = .ok (.sipush n, 3)) (hv : (Int16.ofInt n).toInt32 = v) (kk : Ev X d mc ms y (pc + 3) L (.int v :: st) σ Q) : Ev X d mc ms y pc L st σ Q := by
  intro p l e R s m args below meth c A ax cA D C H locs cells slots Qw ad ls hR hc hs hL K
  exact lv_sipush C.1 C.2.1 hd hv (kk p l e R s m args below meth c A ax cA D C H locs cells slots Qw ad ls hR hc hs hL K)
theorem Ev.lconst {n : Fin 2} {v : Int64} (hd : decode y.2.1 pc = .ok (.lconst n, 1)) (hv : Int64.ofNat (n : Nat) = v) (kk : Ev X d mc ms y (pc + 1) L (.long v :: st) σ Q) : Ev X d mc ms y pc L st σ Q := by
  intro p l e R s m args below meth c A ax cA D C H locs cells slots Qw ad ls hR hc hs hL K
  exact lv_lconst C.1 C.2.1 hd hv (kk p l e R s m args below meth c A ax cA D C H locs cells slots Qw ad ls hR hc hs hL K)
theorem Ev.ldc {ix : Nat} {v : Int32} (hd : decode y.2.1 pc = .ok (.ldc ix, 2)) (hw : Cond.constant y.1.cls ix v ∈ gtbl) (kk : Ev X d mc ms y (pc + 2) L (.int v :: st) σ Q) : Ev X d mc ms y pc L st σ Q := by
  intro p l e R s m args below meth c A ax cA D C H locs cells slots Qw ad ls hR hc hs hL K
  exact lv_ldc C.1 C.2.1 C.own (C.w hw) hd (kk p l e R s m args below meth c A ax cA D C H locs cells slots Qw ad ls hR hc hs hL K)
theorem Ev.ldcw {ix : Nat} {v : Int32} (hd : decode y.2.1 pc = .ok (.ldc_w ix, 3)) (hw : Cond.constant y.1.cls ix v ∈ gtbl) (kk : Ev X d mc ms y (pc + 3) L (.int v :: st) σ Q) : Ev X d mc ms y pc L st σ Q := by
  intro p l e R s m args below meth c A ax cA D C H locs cells slots Qw ad ls hR hc hs hL K
  exact lv_ldcw C.1 C.2.1 C.own (C.w hw) hd (kk p l e R s m args below meth c A ax cA D C H locs cells slots Qw ad ls hR hc hs hL K)
theorem Ev.ldc2 {ix : Nat} {v : Int64} (hd : decode y.2.1 pc = .ok (.ldc2_w ix, 3)) (hw : Cond.constantLong y.1.cls ix v ∈ gtbl) (kk : Ev X d mc ms y (pc + 3) L (.long v :: st) σ Q) : Ev X d mc ms y pc L st σ Q := by
  intro p l e R s m args below meth c A ax cA D C H locs cells slots Qw ad ls hR hc hs hL K
  exact lv_ldc2 C.1 C.2.1 C.own (C.w hw) hd (kk p l e R s m args below meth c A ax cA D C H locs cells slots Qw ad ls hR hc hs hL K)
theorem Ev.iload_n {k : Fin 4} {i : Nat} {x : Int32} (hd : decode y.2.1 pc = .ok (.iload_n k, 1)) (hi : (k : Nat) = i) (hl : L[i]? = some (.int x)) (kk : Ev X d mc ms y (pc + 1) L (.int x :: st) σ Q) : Ev X d mc ms y pc L st σ Q := by
  intro p l e R s m args below meth c A ax cA D C H locs cells slots Qw ad ls hR hc hs hL K
  exact lv_iload_n C.1 C.2.1 hd hi (lr_at hL hl rfl) (kk p l e R s m args below meth c A ax cA D C H locs cells slots Qw ad ls hR hc hs hL K)
theorem Ev.iload {i : Nat} {x : Int32} (hd : decode y.2.1 pc = .ok (.iload i, 2)) (hl : L[i]? = some (.int x)) (kk : Ev X d mc ms y (pc + 2) L (.int x :: st) σ Q) : Ev X d mc ms y pc L st σ Q := by
  intro p l e R s m args below meth c A ax cA D C H locs cells slots Qw ad ls hR hc hs hL K
  exact lv_iload C.1 C.2.1 hd (lr_at hL hl rfl) (kk p l e R s m args below meth c A ax cA D C H locs cells slots Qw ad ls hR hc hs hL K)
theorem Ev.lload_n {k : Fin 4} {i : Nat} {x : Int64} (hd : decode y.2.1 pc = .ok (.lload_n k, 1)) (hi : (k : Nat) = i) (hl : L[i]? = some (.long x)) (kk : Ev X d mc ms y (pc + 1) L (.long x :: st) σ Q) : Ev X d mc ms y pc L st σ Q := by
  intro p l e R s m args below meth c A ax cA D C H locs cells slots Qw ad ls hR hc hs hL K
  exact lv_lload_n C.1 C.2.1 hd hi (lr_at hL hl rfl) (kk p l e R s m args below meth c A ax cA D C H locs cells slots Qw ad ls hR hc hs hL K)
theorem Ev.lload {i : Nat} {x : Int64} (hd : decode y.2.1 pc = .ok (.lload i, 2)) (hl : L[i]? = some (.long x)) (kk : Ev X d mc ms y (pc + 2) L (.long x :: st) σ Q) : Ev X d mc ms y pc L st σ Q := by
  intro p l e R s m args below meth c A ax cA D C H locs cells slots Qw ad ls hR hc hs hL K
  exact lv_lload C.1 C.2.1 hd (lr_at hL hl rfl) (kk p l e R s m args below meth c A ax cA D C H locs cells slots Qw ad ls hR hc hs hL K)
theorem Ev.aload_n {k : Fin 4} {i : Nat} {x : Nat} (hd : decode y.2.1 pc = .ok (.aload_n k, 1)) (hi : (k : Nat) = i) (hl : L[i]? = some (.ref x)) (kk : Ev X d mc ms y (pc + 1) L (.ref x :: st) σ Q) : Ev X d mc ms y pc L st σ Q := by
  intro p l e R s m args below meth c A ax cA D C H locs cells slots Qw ad ls hR hc hs hL K
  exact lv_aload_n C.1 C.2.1 hd hi (lr_at hL hl rfl) (kk p l e R s m args below meth c A ax cA D C H locs cells slots Qw ad ls hR hc hs hL K)
theorem Ev.aload {i : Nat} {x : Nat} (hd : decode y.2.1 pc = .ok (.aload i, 2)) (hl : L[i]? = some (.ref x)) (kk : Ev X d mc ms y (pc + 2) L (.ref x :: st) σ Q) : Ev X d mc ms y pc L st σ Q := by
  intro p l e R s m args below meth c A ax cA D C H locs cells slots Qw ad ls hR hc hs hL K
  exact lv_aload C.1 C.2.1 hd (lr_at hL hl rfl) (kk p l e R s m args below meth c A ax cA D C H locs cells slots Qw ad ls hR hc hs hL K)
theorem Ev.istore_n {k : Fin 4} {i : Nat} {x : Int32} (hd : decode y.2.1 pc = .ok (.istore_n k, 1)) (hi : (k : Nat) = i) (hn : i < y.2.2.1) (ho : ok1 L i = true) (kk : Ev X d mc ms y (pc + 1) (L.set i (.int x)) st σ Q) : Ev X d mc ms y pc L (.int x :: st) σ Q := by
  intro p l e R s m args below meth c A ax cA D C H locs cells slots Qw ad ls hR hc hs hL K
  exact lv_istore_n C.1 C.2.1 hd hi (lr_has.mp hL) hn rfl (fun ls' hl' => (kk p l e R s m args below meth c A ax cA D C H locs cells slots Qw ad ls' hR hc hs (lr_set1 rfl ho hl') K))
theorem Ev.istore {i : Nat} {x : Int32} (hd : decode y.2.1 pc = .ok (.istore i, 2)) (hn : i < y.2.2.1) (ho : ok1 L i = true) (kk : Ev X d mc ms y (pc + 2) (L.set i (.int x)) st σ Q) : Ev X d mc ms y pc L (.int x :: st) σ Q := by
  intro p l e R s m args below meth c A ax cA D C H locs cells slots Qw ad ls hR hc hs hL K
  exact lv_istore C.1 C.2.1 hd (lr_has.mp hL) hn rfl (fun ls' hl' => (kk p l e R s m args below meth c A ax cA D C H locs cells slots Qw ad ls' hR hc hs (lr_set1 rfl ho hl') K))
theorem Ev.astore_n {k : Fin 4} {i : Nat} {x : Nat} (hd : decode y.2.1 pc = .ok (.astore_n k, 1)) (hi : (k : Nat) = i) (hn : i < y.2.2.1) (ho : ok1 L i = true) (kk : Ev X d mc ms y (pc + 1) (L.set i (.ref x)) st σ Q) : Ev X d mc ms y pc L (.ref x :: st) σ Q := by
  intro p l e R s m args below meth c A ax cA D C H locs cells slots Qw ad ls hR hc hs hL K
  exact lv_astore_n C.1 C.2.1 hd hi (lr_has.mp hL) hn rfl (fun ls' hl' => (kk p l e R s m args below meth c A ax cA D C H locs cells slots Qw ad ls' hR hc hs (lr_set1 rfl ho hl') K))
theorem Ev.astore {i : Nat} {x : Nat} (hd : decode y.2.1 pc = .ok (.astore i, 2)) (hn : i < y.2.2.1) (ho : ok1 L i = true) (kk : Ev X d mc ms y (pc + 2) (L.set i (.ref x)) st σ Q) : Ev X d mc ms y pc L (.ref x :: st) σ Q := by
  intro p l e R s m args below meth c A ax cA D C H locs cells slots Qw ad ls hR hc hs hL K
  exact lv_astore C.1 C.2.1 hd (lr_has.mp hL) hn rfl (fun ls' hl' => (kk p l e R s m args below meth c A ax cA D C H locs cells slots Qw ad ls' hR hc hs (lr_set1 rfl ho hl') K))
theorem Ev.lstore_n {k : Fin 4} {i : Nat} {x : Int64} (hd : decode y.2.1 pc = .ok (.lstore_n k, 1)) (hi : (k : Nat) = i) (hn : i + 1 < y.2.2.1) (ho : ok1 L i = true) (kk : Ev X d mc ms y (pc + 1) ((L.set i (.long x)).set (i + 1) U0) st σ Q) : Ev X d mc ms y pc L (.long x :: st) σ Q := by
  intro p l e R s m args below meth c A ax cA D C H locs cells slots Qw ad ls hR hc hs hL K
  exact lv_lstore_n C.1 C.2.1 hd hi (lr_has.mp hL) hn rfl (fun ls' hl' => (kk p l e R s m args below meth c A ax cA D C H locs cells slots Qw ad ls' hR hc hs (lr_set2 ho hl') K))
theorem Ev.lstore {i : Nat} {x : Int64} (hd : decode y.2.1 pc = .ok (.lstore i, 2)) (hn : i + 1 < y.2.2.1) (ho : ok1 L i = true) (kk : Ev X d mc ms y (pc + 2) ((L.set i (.long x)).set (i + 1) U0) st σ Q) : Ev X d mc ms y pc L (.long x :: st) σ Q := by
  intro p l e R s m args below meth c A ax cA D C H locs cells slots Qw ad ls hR hc hs hL K
  exact lv_lstore C.1 C.2.1 hd (lr_has.mp hL) hn rfl (fun ls' hl' => (kk p l e R s m args below meth c A ax cA D C H locs cells slots Qw ad ls' hR hc hs (lr_set2 ho hl') K))
theorem Ev.iinc {i : Nat} {n : Int} {x v : Int32} (hd : decode y.2.1 pc = .ok (.iinc i n, 3)) (hl : L[i]? = some (.int x)) (hv : x + Int32.ofInt n = v) (hn : i < y.2.2.1) (ho : ok1 L i = true) (kk : Ev X d mc ms y (pc + 3) (L.set i (.int v)) st σ Q) : Ev X d mc ms y pc L st σ Q := by
  intro p l e R s m args below meth c A ax cA D C H locs cells slots Qw ad ls hR hc hs hL K
  obtain ⟨k, hk⟩ := List.getElem?_of_mem ((asc_mem (ad := ad) (q := (i, Value.int x))).mpr ⟨.int x, hl, rfl, rfl⟩)
  exact lv_iinc C.1 C.2.1 hd (lr_has.mp hL) hk hv hn rfl (fun ls' hl' => kk p l e R s m args below meth c A ax cA D C H locs cells slots Qw ad ls' hR hc hs (lr_set1 rfl ho hl') K)
theorem Ev.iadd {x z : Int32} (hd : decode y.2.1 pc = .ok (.iadd, 1)) (kk : Ev X d mc ms y (pc + 1) L (.int (x + z) :: st) σ Q) : Ev X d mc ms y pc L (.int z :: .int x :: st) σ Q := by
  intro p l e R s m args below meth c A ax cA D C H locs cells slots Qw ad ls hR hc hs hL K
  exact lv_iadd C.1 C.2.1 hd (kk p l e R s m args below meth c A ax cA D C H locs cells slots Qw ad ls hR hc hs hL K)
theorem Ev.isub {x z : Int32} (hd : decode y.2.1 pc = .ok (.isub, 1)) (kk : Ev X d mc ms y (pc + 1) L (.int (x - z) :: st) σ Q) : Ev X d mc ms y pc L (.int z :: .int x :: st) σ Q := by
  intro p l e R s m args below meth c A ax cA D C H locs cells slots Qw ad ls hR hc hs hL K
  exact lv_isub C.1 C.2.1 hd (kk p l e R s m args below meth c A ax cA D C H locs cells slots Qw ad ls hR hc hs hL K)
theorem Ev.imul {x z : Int32} (hd : decode y.2.1 pc = .ok (.imul, 1)) (kk : Ev X d mc ms y (pc + 1) L (.int (x * z) :: st) σ Q) : Ev X d mc ms y pc L (.int z :: .int x :: st) σ Q := by
  intro p l e R s m args below meth c A ax cA D C H locs cells slots Qw ad ls hR hc hs hL K
  exact lv_imul C.1 C.2.1 hd (kk p l e R s m args below meth c A ax cA D C H locs cells slots Qw ad ls hR hc hs hL K)
theorem Ev.iand {x z : Int32} (hd : decode y.2.1 pc = .ok (.iand, 1)) (kk : Ev X d mc ms y (pc + 1) L (.int (x &&& z) :: st) σ Q) : Ev X d mc ms y pc L (.int z :: .int x :: st) σ Q := by
  intro p l e R s m args below meth c A ax cA D C H locs cells slots Qw ad ls hR hc hs hL K
  exact lv_iand C.1 C.2.1 hd (kk p l e R s m args below meth c A ax cA D C H locs cells slots Qw ad ls hR hc hs hL K)
theorem Ev.ior {x z : Int32} (hd : decode y.2.1 pc = .ok (.ior, 1)) (kk : Ev X d mc ms y (pc + 1) L (.int (x ||| z) :: st) σ Q) : Ev X d mc ms y pc L (.int z :: .int x :: st) σ Q := by
  intro p l e R s m args below meth c A ax cA D C H locs cells slots Qw ad ls hR hc hs hL K
  exact lv_ior C.1 C.2.1 hd (kk p l e R s m args below meth c A ax cA D C H locs cells slots Qw ad ls hR hc hs hL K)
theorem Ev.ixor {x z : Int32} (hd : decode y.2.1 pc = .ok (.ixor, 1)) (kk : Ev X d mc ms y (pc + 1) L (.int (x ^^^ z) :: st) σ Q) : Ev X d mc ms y pc L (.int z :: .int x :: st) σ Q := by
  intro p l e R s m args below meth c A ax cA D C H locs cells slots Qw ad ls hR hc hs hL K
  exact lv_ixor C.1 C.2.1 hd (kk p l e R s m args below meth c A ax cA D C H locs cells slots Qw ad ls hR hc hs hL K)
theorem Ev.ishl {x z : Int32} (hd : decode y.2.1 pc = .ok (.ishl, 1)) (kk : Ev X d mc ms y (pc + 1) L (.int (x <<< (z &&& 31)) :: st) σ Q) : Ev X d mc ms y pc L (.int z :: .int x :: st) σ Q := by
  intro p l e R s m args below meth c A ax cA D C H locs cells slots Qw ad ls hR hc hs hL K
  exact lv_ishl C.1 C.2.1 hd (kk p l e R s m args below meth c A ax cA D C H locs cells slots Qw ad ls hR hc hs hL K)
theorem Ev.ishr {x z : Int32} (hd : decode y.2.1 pc = .ok (.ishr, 1)) (kk : Ev X d mc ms y (pc + 1) L (.int (x >>> (z &&& 31)) :: st) σ Q) : Ev X d mc ms y pc L (.int z :: .int x :: st) σ Q := by
  intro p l e R s m args below meth c A ax cA D C H locs cells slots Qw ad ls hR hc hs hL K
  exact lv_ishr C.1 C.2.1 hd (kk p l e R s m args below meth c A ax cA D C H locs cells slots Qw ad ls hR hc hs hL K)
theorem Ev.iushr {x z : Int32} (hd : decode y.2.1 pc = .ok (.iushr, 1)) (kk : Ev X d mc ms y (pc + 1) L (.int ((x.toUInt32 >>> (z.toUInt32 &&& Int32.toUInt32 31)).toInt32) :: st) σ Q) : Ev X d mc ms y pc L (.int z :: .int x :: st) σ Q := by
  intro p l e R s m args below meth c A ax cA D C H locs cells slots Qw ad ls hR hc hs hL K
  exact lv_iushr C.1 C.2.1 hd rfl (kk p l e R s m args below meth c A ax cA D C H locs cells slots Qw ad ls hR hc hs hL K)
theorem Ev.idiv {x z : Int32} (hd : decode y.2.1 pc = .ok (.idiv, 1)) (hz : ¬ z = 0) (kk : Ev X d mc ms y (pc + 1) L (.int (x / z) :: st) σ Q) : Ev X d mc ms y pc L (.int z :: .int x :: st) σ Q := by
  intro p l e R s m args below meth c A ax cA D C H locs cells slots Qw ad ls hR hc hs hL K
  exact lv_idiv C.1 C.2.1 hd hz (kk p l e R s m args below meth c A ax cA D C H locs cells slots Qw ad ls hR hc hs hL K)
theorem Ev.irem {x z : Int32} (hd : decode y.2.1 pc = .ok (.irem, 1)) (hz : ¬ z = 0) (kk : Ev X d mc ms y (pc + 1) L (.int (x - x / z * z) :: st) σ Q) : Ev X d mc ms y pc L (.int z :: .int x :: st) σ Q := by
  intro p l e R s m args below meth c A ax cA D C H locs cells slots Qw ad ls hR hc hs hL K
  exact lv_irem C.1 C.2.1 hd hz (kk p l e R s m args below meth c A ax cA D C H locs cells slots Qw ad ls hR hc hs hL K)
theorem Ev.ineg {x : Int32} (hd : decode y.2.1 pc = .ok (.ineg, 1)) (kk : Ev X d mc ms y (pc + 1) L (.int (-x) :: st) σ Q) : Ev X d mc ms y pc L (.int x :: st) σ Q := by
  intro p l e R s m args below meth c A ax cA D C H locs cells slots Qw ad ls hR hc hs hL K
  exact lv_ineg C.1 C.2.1 hd (kk p l e R s m args below meth c A ax cA D C H locs cells slots Qw ad ls hR hc hs hL K)
theorem Ev.i2b {x : Int32} (hd : decode y.2.1 pc = .ok (.i2b, 1)) (kk : Ev X d mc ms y (pc + 1) L (.int x.toInt8.toInt32 :: st) σ Q) : Ev X d mc ms y pc L (.int x :: st) σ Q := by
  intro p l e R s m args below meth c A ax cA D C H locs cells slots Qw ad ls hR hc hs hL K
  exact lv_i2b C.1 C.2.1 hd rfl (kk p l e R s m args below meth c A ax cA D C H locs cells slots Qw ad ls hR hc hs hL K)
theorem Ev.i2l {x : Int32} (hd : decode y.2.1 pc = .ok (.i2l, 1)) (kk : Ev X d mc ms y (pc + 1) L (.long x.toInt64 :: st) σ Q) : Ev X d mc ms y pc L (.int x :: st) σ Q := by
  intro p l e R s m args below meth c A ax cA D C H locs cells slots Qw ad ls hR hc hs hL K
  exact lv_i2l C.1 C.2.1 hd rfl (kk p l e R s m args below meth c A ax cA D C H locs cells slots Qw ad ls hR hc hs hL K)
theorem Ev.ladd {x z : Int64} (hd : decode y.2.1 pc = .ok (.ladd, 1)) (kk : Ev X d mc ms y (pc + 1) L (.long (x + z) :: st) σ Q) : Ev X d mc ms y pc L (.long z :: .long x :: st) σ Q := by
  intro p l e R s m args below meth c A ax cA D C H locs cells slots Qw ad ls hR hc hs hL K
  exact lv_ladd C.1 C.2.1 hd (kk p l e R s m args below meth c A ax cA D C H locs cells slots Qw ad ls hR hc hs hL K)
theorem Ev.lmul {x z : Int64} (hd : decode y.2.1 pc = .ok (.lmul, 1)) (kk : Ev X d mc ms y (pc + 1) L (.long (x * z) :: st) σ Q) : Ev X d mc ms y pc L (.long z :: .long x :: st) σ Q := by
  intro p l e R s m args below meth c A ax cA D C H locs cells slots Qw ad ls hR hc hs hL K
  exact lv_lmul C.1 C.2.1 hd (kk p l e R s m args below meth c A ax cA D C H locs cells slots Qw ad ls hR hc hs hL K)
theorem Ev.lneg {x : Int64} (hd : decode y.2.1 pc = .ok (.lneg, 1)) (kk : Ev X d mc ms y (pc + 1) L (.long (-x) :: st) σ Q) : Ev X d mc ms y pc L (.long x :: st) σ Q := by
  intro p l e R s m args below meth c A ax cA D C H locs cells slots Qw ad ls hR hc hs hL K
  exact lv_lneg C.1 C.2.1 hd (kk p l e R s m args below meth c A ax cA D C H locs cells slots Qw ad ls hR hc hs hL K)
theorem Ev.lcmp {x z : Int64} (hd : decode y.2.1 pc = .ok (.lcmp, 1)) (kk : Ev X d mc ms y (pc + 1) L (.int (lg_cmp x z) :: st) σ Q) : Ev X d mc ms y pc L (.long z :: .long x :: st) σ Q := by
  intro p l e R s m args below meth c A ax cA D C H locs cells slots Qw ad ls hR hc hs hL K
  exact W.lcmp C.1 C.2.1 hd (kk p l e R s m args below meth c A ax cA D C H locs cells slots Qw ad ls hR hc hs hL K)
theorem Ev.dup {a : Value} (hd : decode y.2.1 pc = .ok (.dup, 1)) (ha : a.category = 1) (kk : Ev X d mc ms y (pc + 1) L (a :: a :: st) σ Q) : Ev X d mc ms y pc L (a :: st) σ Q := by
  intro p l e R s m args below meth c A ax cA D C H locs cells slots Qw ad ls hR hc hs hL K
  exact lv_dup C.1 C.2.1 hd (by rw [tr_cat]; exact ha) (kk p l e R s m args below meth c A ax cA D C H locs cells slots Qw ad ls hR hc hs hL K)
theorem Ev.pop {a : Value} (hd : decode y.2.1 pc = .ok (.pop, 1)) (ha : a.category = 1) (kk : Ev X d mc ms y (pc + 1) L st σ Q) : Ev X d mc ms y pc L (a :: st) σ Q := by
  intro p l e R s m args below meth c A ax cA D C H locs cells slots Qw ad ls hR hc hs hL K
  exact lv_pop C.1 C.2.1 hd (by rw [tr_cat]; exact ha) (kk p l e R s m args below meth c A ax cA D C H locs cells slots Qw ad ls hR hc hs hL K)
theorem Ev.dup_x1 {a b : Value} (hd : decode y.2.1 pc = .ok (.dup_x1, 1)) (ha : a.category = 1) (hb : b.category = 1) (kk : Ev X d mc ms y (pc + 1) L (a :: b :: a :: st) σ Q) : Ev X d mc ms y pc L (a :: b :: st) σ Q := by
  intro p l e R s m args below meth c A ax cA D C H locs cells slots Qw ad ls hR hc hs hL K
  exact lv_dup_x1 C.1 C.2.1 hd (by rw [tr_cat]; exact ha) (by rw [tr_cat]; exact hb) (kk p l e R s m args below meth c A ax cA D C H locs cells slots Qw ad ls hR hc hs hL K)
theorem Ev.dup2 {a b : Value} (hd : decode y.2.1 pc = .ok (.dup2, 1)) (ha : a.category = 1) (hb : b.category = 1) (kk : Ev X d mc ms y (pc + 1) L (a :: b :: a :: b :: st) σ Q) : Ev X d mc ms y pc L (a :: b :: st) σ Q := by
  intro p l e R s m args below meth c A ax cA D C H locs cells slots Qw ad ls hR hc hs hL K
  exact lv_dup2_11 C.1 C.2.1 hd (by rw [tr_cat]; exact ha) (by rw [tr_cat]; exact hb) (kk p l e R s m args below meth c A ax cA D C H locs cells slots Qw ad ls hR hc hs hL K)
theorem Ev.icmp_eq {x z : Int32} {off : Int} {tgt : Nat} (hd : decode y.2.1 pc = .ok (.if_icmp .eq off, 3)) (ht : (pc : Int) + off = (tgt : Int)) (kt : x = z → Ev X d mc ms y (tgt) L st σ Q) (kf : ¬ x = z → Ev X d mc ms y (pc + 3) L st σ Q) : Ev X d mc ms y pc L (.int z :: .int x :: st) σ Q := by
  intro p l e R s m args below meth c A ax cA D C H locs cells slots Qw ad ls hR hc hs hL K
  exact lv_icmp_eq C.1 C.2.1 hd ht (fun q => (kt q p l e R s m args below meth c A ax cA D C H locs cells slots Qw ad ls hR hc hs hL K)) (fun q => (kf q p l e R s m args below meth c A ax cA D C H locs cells slots Qw ad ls hR hc hs hL K))
theorem Ev.if_eq {x : Int32} {off : Int} {tgt : Nat} (hd : decode y.2.1 pc = .ok (.ifCond .eq off, 3)) (ht : (pc : Int) + off = (tgt : Int)) (kt : x = 0 → Ev X d mc ms y (tgt) L st σ Q) (kf : ¬ x = 0 → Ev X d mc ms y (pc + 3) L st σ Q) : Ev X d mc ms y pc L (.int x :: st) σ Q := by
  intro p l e R s m args below meth c A ax cA D C H locs cells slots Qw ad ls hR hc hs hL K
  exact lv_if_eq C.1 C.2.1 hd ht (fun q => (kt q p l e R s m args below meth c A ax cA D C H locs cells slots Qw ad ls hR hc hs hL K)) (fun q => (kf q p l e R s m args below meth c A ax cA D C H locs cells slots Qw ad ls hR hc hs hL K))
theorem Ev.icmp_ne {x z : Int32} {off : Int} {tgt : Nat} (hd : decode y.2.1 pc = .ok (.if_icmp .ne off, 3)) (ht : (pc : Int) + off = (tgt : Int)) (kt : ¬ x = z → Ev X d mc ms y (tgt) L st σ Q) (kf : x = z → Ev X d mc ms y (pc + 3) L st σ Q) : Ev X d mc ms y pc L (.int z :: .int x :: st) σ Q := by
  intro p l e R s m args below meth c A ax cA D C H locs cells slots Qw ad ls hR hc hs hL K
  exact lv_icmp_ne C.1 C.2.1 hd ht (fun q => (kt q p l e R s m args below meth c A ax cA D C H locs cells slots Qw ad ls hR hc hs hL K)) (fun q => (kf q p l e R s m args below meth c A ax cA D C H locs cells slots Qw ad ls hR hc hs hL K))
theorem Ev.if_ne {x : Int32} {off : Int} {tgt : Nat} (hd : decode y.2.1 pc = .ok (.ifCond .ne off, 3)) (ht : (pc : Int) + off = (tgt : Int)) (kt : ¬ x = 0 → Ev X d mc ms y (tgt) L st σ Q) (kf : x = 0 → Ev X d mc ms y (pc + 3) L st σ Q) : Ev X d mc ms y pc L (.int x :: st) σ Q := by
  intro p l e R s m args below meth c A ax cA D C H locs cells slots Qw ad ls hR hc hs hL K
  exact lv_if_ne C.1 C.2.1 hd ht (fun q => (kt q p l e R s m args below meth c A ax cA D C H locs cells slots Qw ad ls hR hc hs hL K)) (fun q => (kf q p l e R s m args below meth c A ax cA D C H locs cells slots Qw ad ls hR hc hs hL K))
theorem Ev.icmp_lt {x z : Int32} {off : Int} {tgt : Nat} (hd : decode y.2.1 pc = .ok (.if_icmp .lt off, 3)) (ht : (pc : Int) + off = (tgt : Int)) (kt : x < z → Ev X d mc ms y (tgt) L st σ Q) (kf : ¬ x < z → Ev X d mc ms y (pc + 3) L st σ Q) : Ev X d mc ms y pc L (.int z :: .int x :: st) σ Q := by
  intro p l e R s m args below meth c A ax cA D C H locs cells slots Qw ad ls hR hc hs hL K
  exact lv_icmp_lt C.1 C.2.1 hd ht (fun q => (kt q p l e R s m args below meth c A ax cA D C H locs cells slots Qw ad ls hR hc hs hL K)) (fun q => (kf q p l e R s m args below meth c A ax cA D C H locs cells slots Qw ad ls hR hc hs hL K))
theorem Ev.if_lt {x : Int32} {off : Int} {tgt : Nat} (hd : decode y.2.1 pc = .ok (.ifCond .lt off, 3)) (ht : (pc : Int) + off = (tgt : Int)) (kt : x < 0 → Ev X d mc ms y (tgt) L st σ Q) (kf : ¬ x < 0 → Ev X d mc ms y (pc + 3) L st σ Q) : Ev X d mc ms y pc L (.int x :: st) σ Q := by
  intro p l e R s m args below meth c A ax cA D C H locs cells slots Qw ad ls hR hc hs hL K
  exact lv_if_lt C.1 C.2.1 hd ht (fun q => (kt q p l e R s m args below meth c A ax cA D C H locs cells slots Qw ad ls hR hc hs hL K)) (fun q => (kf q p l e R s m args below meth c A ax cA D C H locs cells slots Qw ad ls hR hc hs hL K))
theorem Ev.icmp_ge {x z : Int32} {off : Int} {tgt : Nat} (hd : decode y.2.1 pc = .ok (.if_icmp .ge off, 3)) (ht : (pc : Int) + off = (tgt : Int)) (kt : z ≤ x → Ev X d mc ms y (tgt) L st σ Q) (kf : ¬ z ≤ x → Ev X d mc ms y (pc + 3) L st σ Q) : Ev X d mc ms y pc L (.int z :: .int x :: st) σ Q := by
  intro p l e R s m args below meth c A ax cA D C H locs cells slots Qw ad ls hR hc hs hL K
  exact lv_icmp_ge C.1 C.2.1 hd ht (fun q => (kt q p l e R s m args below meth c A ax cA D C H locs cells slots Qw ad ls hR hc hs hL K)) (fun q => (kf q p l e R s m args below meth c A ax cA D C H locs cells slots Qw ad ls hR hc hs hL K))
theorem Ev.if_ge {x : Int32} {off : Int} {tgt : Nat} (hd : decode y.2.1 pc = .ok (.ifCond .ge off, 3)) (ht : (pc : Int) + off = (tgt : Int)) (kt : 0 ≤ x → Ev X d mc ms y (tgt) L st σ Q) (kf : ¬ 0 ≤ x → Ev X d mc ms y (pc + 3) L st σ Q) : Ev X d mc ms y pc L (.int x :: st) σ Q := by
  intro p l e R s m args below meth c A ax cA D C H locs cells slots Qw ad ls hR hc hs hL K
  exact lv_if_ge C.1 C.2.1 hd ht (fun q => (kt q p l e R s m args below meth c A ax cA D C H locs cells slots Qw ad ls hR hc hs hL K)) (fun q => (kf q p l e R s m args below meth c A ax cA D C H locs cells slots Qw ad ls hR hc hs hL K))
theorem Ev.icmp_gt {x z : Int32} {off : Int} {tgt : Nat} (hd : decode y.2.1 pc = .ok (.if_icmp .gt off, 3)) (ht : (pc : Int) + off = (tgt : Int)) (kt : z < x → Ev X d mc ms y (tgt) L st σ Q) (kf : ¬ z < x → Ev X d mc ms y (pc + 3) L st σ Q) : Ev X d mc ms y pc L (.int z :: .int x :: st) σ Q := by
  intro p l e R s m args below meth c A ax cA D C H locs cells slots Qw ad ls hR hc hs hL K
  exact lv_icmp_gt C.1 C.2.1 hd ht (fun q => (kt q p l e R s m args below meth c A ax cA D C H locs cells slots Qw ad ls hR hc hs hL K)) (fun q => (kf q p l e R s m args below meth c A ax cA D C H locs cells slots Qw ad ls hR hc hs hL K))
theorem Ev.if_gt {x : Int32} {off : Int} {tgt : Nat} (hd : decode y.2.1 pc = .ok (.ifCond .gt off, 3)) (ht : (pc : Int) + off = (tgt : Int)) (kt : 0 < x → Ev X d mc ms y (tgt) L st σ Q) (kf : ¬ 0 < x → Ev X d mc ms y (pc + 3) L st σ Q) : Ev X d mc ms y pc L (.int x :: st) σ Q := by
  intro p l e R s m args below meth c A ax cA D C H locs cells slots Qw ad ls hR hc hs hL K
  exact lv_if_gt C.1 C.2.1 hd ht (fun q => (kt q p l e R s m args below meth c A ax cA D C H locs cells slots Qw ad ls hR hc hs hL K)) (fun q => (kf q p l e R s m args below meth c A ax cA D C H locs cells slots Qw ad ls hR hc hs hL K))
theorem Ev.icmp_le {x z : Int32} {off : Int} {tgt : Nat} (hd : decode y.2.1 pc = .ok (.if_icmp .le off, 3)) (ht : (pc : Int) + off = (tgt : Int)) (kt : x ≤ z → Ev X d mc ms y (tgt) L st σ Q) (kf : ¬ x ≤ z → Ev X d mc ms y (pc + 3) L st σ Q) : Ev X d mc ms y pc L (.int z :: .int x :: st) σ Q := by
  intro p l e R s m args below meth c A ax cA D C H locs cells slots Qw ad ls hR hc hs hL K
  exact lv_icmp_le C.1 C.2.1 hd ht (fun q => (kt q p l e R s m args below meth c A ax cA D C H locs cells slots Qw ad ls hR hc hs hL K)) (fun q => (kf q p l e R s m args below meth c A ax cA D C H locs cells slots Qw ad ls hR hc hs hL K))
theorem Ev.if_le {x : Int32} {off : Int} {tgt : Nat} (hd : decode y.2.1 pc = .ok (.ifCond .le off, 3)) (ht : (pc : Int) + off = (tgt : Int)) (kt : x ≤ 0 → Ev X d mc ms y (tgt) L st σ Q) (kf : ¬ x ≤ 0 → Ev X d mc ms y (pc + 3) L st σ Q) : Ev X d mc ms y pc L (.int x :: st) σ Q := by
  intro p l e R s m args below meth c A ax cA D C H locs cells slots Qw ad ls hR hc hs hL K
  exact lv_if_le C.1 C.2.1 hd ht (fun q => (kt q p l e R s m args below meth c A ax cA D C H locs cells slots Qw ad ls hR hc hs hL K)) (fun q => (kf q p l e R s m args below meth c A ax cA D C H locs cells slots Qw ad ls hR hc hs hL K))
theorem Ev.goto {off : Int} {tgt : Nat} (hd : decode y.2.1 pc = .ok (.goto off, 3)) (ht : (pc : Int) + off = (tgt : Int)) (kk : Ev X d mc ms y (tgt) L st σ Q) : Ev X d mc ms y pc L st σ Q := by
  intro p l e R s m args below meth c A ax cA D C H locs cells slots Qw ad ls hR hc hs hL K
  exact lv_goto C.1 C.2.1 hd ht (kk p l e R s m args below meth c A ax cA D C H locs cells slots Qw ad ls hR hc hs hL K)
theorem Ev.tableIn {dflt lo hi : Int} {offs : Array Int} {len : Nat} {x : Int32} {off : Int} {tgt : Nat} (hd : decode y.2.1 pc = .ok (.tableswitch dflt lo hi offs, len)) (h1 : ¬ x.toInt < lo) (h2 : ¬ hi < x.toInt) (ho : offs[(x.toInt - lo).toNat]? = some off) (ht : (pc : Int) + off = (tgt : Int)) (kk : Ev X d mc ms y (tgt) L st σ Q) : Ev X d mc ms y pc L (.int x :: st) σ Q := by
  intro p l e R s m args below meth c A ax cA D C H locs cells slots Qw ad ls hR hc hs hL K
  exact lv_tableIn C.1 C.2.1 hd h1 h2 ho ht (kk p l e R s m args below meth c A ax cA D C H locs cells slots Qw ad ls hR hc hs hL K)
theorem Ev.tableOut {dflt lo hi : Int} {offs : Array Int} {len : Nat} {x : Int32} {tgt : Nat} (hd : decode y.2.1 pc = .ok (.tableswitch dflt lo hi offs, len)) (h : x.toInt < lo ∨ hi < x.toInt) (ht : (pc : Int) + dflt = (tgt : Int)) (kk : Ev X d mc ms y (tgt) L st σ Q) : Ev X d mc ms y pc L (.int x :: st) σ Q := by
  intro p l e R s m args below meth c A ax cA D C H locs cells slots Qw ad ls hR hc hs hL K
  exact lv_tableOut C.1 C.2.1 hd h ht (kk p l e R s m args below meth c A ax cA D C H locs cells slots Qw ad ls hR hc hs hL K)
theorem Ev.lookup {dflt : Int} {ps : Array (Int × Int)} {len : Nat} {x : Int32} {off : Int} {tgt : Nat} (hd : decode y.2.1 pc = .ok (.lookupswitch dflt ps, len)) (hp : (ps.toList.zip (ps.toList.drop 1)).all (fun (a, next) => a.1 < next.1) = true) (ho : Op.lookupswitch.offset ps.toList dflt x.toInt = off) (ht : (pc : Int) + off = (tgt : Int)) (kk : Ev X d mc ms y (tgt) L st σ Q) : Ev X d mc ms y pc L (.int x :: st) σ Q := by
  intro p l e R s m args below meth c A ax cA D C H locs cells slots Qw ad ls hR hc hs hL K
  exact lv_lookup C.1 C.2.1 hd hp ho ht (kk p l e R s m args below meth c A ax cA D C H locs cells slots Qw ad ls hR hc hs hL K)
/-! memory -/
theorem pI_o {h : HH} {i k : Nat} {v : Int32} : ∀ j, j ≠ i → (pI h i k v).1 j = h.1 j ∧ (pI h i k v).2 j = h.2 j := fun j hj => ⟨by funext b; simp [pI, hj], rfl⟩
theorem pL_o {h : HH} {i k : Nat} {v : Int64} : ∀ j, j ≠ i → (pL h i k v).1 j = h.1 j ∧ (pL h i k v).2 j = h.2 j := fun j hj => ⟨rfl, by funext b; simp [pL, hj]⟩
theorem cR_o {h : HH} {i j sp dp n : Nat} : ∀ q, q ≠ j → (cR h i j sp dp n).1 q = h.1 q ∧ (cR h i j sp dp n).2 q = h.2 q := fun q hq => ⟨by funext b; simp [cR, hq], rfl⟩
theorem Ev.getI {id ci k ix N : Nat} {Cn : String} {T : u_T} {ks : List (Option (Option Nat))} (hd : decode y.2.1 pc = .ok (.getfield ix, 3)) (hin : ∀ w ∈ u_ws Cn T N, w ∈ gtbl) (hcl : vwCl[ci]? = some (Cn, T, N)) (hk : k < N)
    (hw : Cond.fieldLink y.1.cls ix (T k).1 (T k).2.1 (T k).2.2.1 ∈ gtbl) (hlay : σ.1[id]? = some (.inl (ci, ks))) (hf : ks[k]? = some none) (kk : Ev X d mc ms y (pc + 3) L (.int (σ.2.1 id k) :: st) σ Q) : Ev X d mc ms y pc L (.ref id :: st) σ Q := by
  intro p l e R s m args below meth c A ax cA D C H locs cells slots Qw ad ls hR hc hs hL K
  have hkl : k < ks.length := (List.getElem?_eq_some_iff.mp hf).1
  refine va_get (D := D) (ci := ci) (C := Cn) (T := T) (N := N) C.1 C.2.1 C.tbl hin C.own C.kk hR.2.2.2.1 id (wl_get hlay) hcl k hk (C.w hw) (fun _ h9 => h9) (v := .int (σ.2.1 id k)) ?_ hd (kk p l e R s m args below meth c A ax cA D C H locs cells slots Qw ad ls hR hc hs hL K)
  simp only [List.getElem?_map, List.getElem?_range hkl, Option.map_some, List.getD_eq_getElem?_getD, hf, Option.getD_some, fv]
theorem Ev.getR {id ci k ix N j : Nat} {Cn : String} {T : u_T} {ks : List (Option (Option Nat))} (hd : decode y.2.1 pc = .ok (.getfield ix, 3)) (hin : ∀ w ∈ u_ws Cn T N, w ∈ gtbl) (hcl : vwCl[ci]? = some (Cn, T, N)) (hk : k < N)
    (hw : Cond.fieldLink y.1.cls ix (T k).1 (T k).2.1 (T k).2.2.1 ∈ gtbl) (hlay : σ.1[id]? = some (.inl (ci, ks))) (hf : ks[k]? = some (some (some j))) (kk : Ev X d mc ms y (pc + 3) L (.ref j :: st) σ Q) : Ev X d mc ms y pc L (.ref id :: st) σ Q := by
  intro p l e R s m args below meth c A ax cA D C H locs cells slots Qw ad ls hR hc hs hL K
  have hkl : k < ks.length := (List.getElem?_eq_some_iff.mp hf).1
  refine va_get (D := D) (ci := ci) (C := Cn) (T := T) (N := N) C.1 C.2.1 C.tbl hin C.own C.kk hR.2.2.2.1 id (wl_get hlay) hcl k hk (C.w hw) (fun _ h9 => h9) (v := .ref (ad j)) ?_ hd (kk p l e R s m args below meth c A ax cA D C H locs cells slots Qw ad ls hR hc hs hL K)
  simp only [List.getElem?_map, List.getElem?_range hkl, Option.map_some, List.getD_eq_getElem?_getD, hf, Option.getD_some, fv]
theorem ks_set {α : Type} (f g : Nat → α) (n k : Nat) (v : α) (hk : f k = v) (ho : ∀ j, j ≠ k → f j = g j) : ((List.range n).map g).set k v = (List.range n).map f := by
  apply List.ext_getElem?
  intro j
  by_cases hj : j = k
  · subst hj
    by_cases hn : j < n
    · rw [List.getElem?_set_self (by simpa using hn)]
      simp [hn, hk]
    · rw [List.getElem?_eq_none (by simpa using Nat.le_of_not_lt hn), List.getElem?_eq_none (by simpa using Nat.le_of_not_lt hn)]
  · rw [List.getElem?_set_ne (Ne.symm hj)]
    simp only [List.getElem?_map]
    cases hr : (List.range n)[j]? with
    | none => rfl
    | some z =>
      have : z = j := by have := List.getElem?_eq_some_iff.mp hr; obtain ⟨_, h2⟩ := this; simpa using h2.symm
      subst this
      simp [ho z hj]
theorem set_self {α : Type} {l : List α} {i : Nat} {c : α} (h : l[i]? = some c) : l.set i c = l := by
  apply List.ext_getElem?
  intro j
  by_cases hj : j = i
  · subst hj
    rw [List.getElem?_set_self (List.getElem?_eq_some_iff.mp h).1, h]
  · rw [List.getElem?_set_ne (Ne.symm hj)]
theorem okl_set {lay : List LC} {i : Nat} {c : LC} (h : okl lay = true) (hc : okc lay.length c = true) : okl (lay.set i c) = true := by
  unfold okl at *
  rw [List.all_eq_true] at *
  intro x hx
  rw [List.length_set]
  rcases List.mem_or_eq_of_mem_set hx with h1 | h1
  · exact h x h1
  · rw [h1]; exact hc
theorem Ev.putI {id ci k ix N : Nat} {Cn : String} {T : u_T} {ty0 : Nat → FieldType} {ty : FieldType} {v : Int32} {ks : List (Option (Option Nat))} (hd : decode y.2.1 pc = .ok (.putfield ix, 3)) (hin : ∀ w ∈ u_ws Cn T N, w ∈ gtbl) (hty : ∀ k, k < N → parseFieldDescriptor (T k).2.2.1 = some (ty0 k)) (hnm : ∀ a, a < N → ∀ b, b < N → a ≠ b → (T a).2.1 ≠ (T b).2.1)
    (hcl : vwCl[ci]? = some (Cn, T, N)) (hk : k < N) (hfin : (T k).2.2.2 = false) (hdt : parseFieldDescriptor (T k).2.2.1 = some ty) (hna : narrow ty (.int v) = .int v) (hft : fits ty (.int v) = true)
    (hw : Cond.fieldLink y.1.cls ix (T k).1 (T k).2.1 (T k).2.2.1 ∈ gtbl) (hlay : σ.1[id]? = some (.inl (ci, ks))) (hf : ks[k]? = some none) (kk : Ev X d mc ms y (pc + 3) L st (σ.1, pI σ.2 id k v) Q) : Ev X d mc ms y pc L (.int v :: .ref id :: st) σ Q := by
  intro p l e R s m args below meth c A ax cA D C H locs cells slots Qw ad ls hR hc hs hL K
  have hkl : k < ks.length := (List.getElem?_eq_some_iff.mp hf).1
  have hid : id < σ.1.length := (List.getElem?_eq_some_iff.mp hlay).1
  refine va_put (D := D) (ci := ci) (v := .int v) (ty := ty) (C := Cn) (T := T) (N := N) C.1 C.2.1 C.tbl hin ty0 hty hnm C.own C.kk hR.2.2.2.1 hR.2.2.2.2.1 hR.2.2.2.2.2 id (wl_get hlay) hcl k hk (C.w hw) (fun _ h9 => h9) hfin hdt hna hft (by simpa using hkl) hd (fun H1 locs1 hP1 hD1 hS1 => ?_)
  have ew : (wl ad cA σ.1 σ.2).set id (ad id, .inr (ci, ((List.range ks.length).map (fun k => fv ad σ.2 id k (ks.getD k none))).set k (.int v))) = wl ad cA σ.1 (pI σ.2 id k v) := by
    refine wl_set (c' := .inl (ci, ks)) (set_self hlay).symm ?_ hid pI_o
    exact congrArg (fun z => (Sum.inr (ci, z) : va_E)) (ks_set _ _ _ _ _ (by simp [hf, fv, pI]) (fun j hj => by cases hq : ks.getD j none <;> simp [fv, pI, hj])).symm
  rw [ew] at hP1 hD1
  exact kk p l e R s m args below meth c A ax cA D C H1 locs1 cells slots Qw ad ls ⟨hR.1, hR.2.1, hR.2.2.1, hP1, hD1, hS1⟩ hc hs hL K
theorem Ev.putR {id ci k ix N j : Nat} {Cn : String} {T : u_T} {ty0 : Nat → FieldType} {ty : FieldType} {ks : List (Option (Option Nat))} (hd : decode y.2.1 pc = .ok (.putfield ix, 3)) (hin : ∀ w ∈ u_ws Cn T N, w ∈ gtbl) (hty : ∀ k, k < N → parseFieldDescriptor (T k).2.2.1 = some (ty0 k)) (hnm : ∀ a, a < N → ∀ b, b < N → a ≠ b → (T a).2.1 ≠ (T b).2.1)
    (hcl : vwCl[ci]? = some (Cn, T, N)) (hk : k < N) (hfin : (T k).2.2.2 = true) (hini : y.1.name = "<init>") (hdec : (T k).1 = y.1.cls) (hdt : parseFieldDescriptor (T k).2.2.1 = some ty) (hna : ∀ a, narrow ty (.ref a) = .ref a) (hft : ∀ a, fits ty (.ref a) = true)
    (hw : Cond.fieldLink y.1.cls ix (T k).1 (T k).2.1 (T k).2.2.1 ∈ gtbl) (hlay : σ.1[id]? = some (.inl (ci, ks))) (hf : k < ks.length) (hj : j < σ.1.length) (kk : Ev X d mc ms y (pc + 3) L st (σ.1.set id (.inl (ci, ks.set k (some (some j)))), σ.2) Q) : Ev X d mc ms y pc L (.ref j :: .ref id :: st) σ Q := by
  intro p l e R s m args below meth c A ax cA D C H locs cells slots Qw ad ls hR hc hs hL K
  have hid : id < σ.1.length := (List.getElem?_eq_some_iff.mp hlay).1
  refine va_putF (D := D) (ci := ci) (v := .ref (ad j)) (ty := ty) (C := Cn) (T := T) (N := N) C.1 C.2.1 C.tbl hin ty0 hty hnm C.own C.kk hR.2.2.2.1 hR.2.2.2.2.1 hR.2.2.2.2.2 id (wl_get hlay) hcl k hk (C.w hw) (fun _ h9 => h9) hfin (C.2.2.2.2.2.1 hini) hdec hdt (hna _) (hft _) (by simpa using hf) hd (fun H1 locs1 hP1 hD1 hS1 => ?_)
  have ew : (wl ad cA σ.1 σ.2).set id (ad id, .inr (ci, ((List.range ks.length).map (fun k => fv ad σ.2 id k (ks.getD k none))).set k (.ref (ad j)))) = wl ad cA (σ.1.set id (.inl (ci, ks.set k (some (some j))))) σ.2 := by
    refine wl_set (c' := .inl (ci, ks.set k (some (some j)))) rfl ?_ hid (fun _ _ => ⟨rfl, rfl⟩)
    simp only [ce, List.length_set]
    exact congrArg (fun z => (Sum.inr (ci, z) : va_E)) (ks_set _ _ _ _ _ (by simp [hf, fv]) (fun q hq => by simp [List.getElem?_set_ne (Ne.symm hq)])).symm
  rw [ew] at hP1 hD1
  have hok : okl (σ.1.set id (.inl (ci, ks.set k (some (some j))))) = true := by
    refine okl_set hR.2.1 ?_
    have h0 : okc σ.1.length (.inl (ci, ks)) = true := (List.all_eq_true.mp hR.2.1) _ (List.mem_of_getElem? hlay)
    simp only [okc] at h0 ⊢
    rw [List.all_eq_true] at h0 ⊢
    intro x hx
    rcases List.mem_or_eq_of_mem_set hx with h1 | h1
    · exact h0 x h1
    · rw [h1]; simp [hj]
  refine kk p l e R s m args below meth c A ax cA D C H1 locs1 cells slots Qw ad ls ⟨by simpa using hR.1, hok, hR.2.2.1, hP1, hD1, hS1⟩ hc hs hL ?_
  intro r σ' H' locs' cells' slots' ad' ls' pc' hQ hR' hc' hs' had h0 hle hret
  exact K r σ' H' locs' cells' slots' ad' ls' pc' hQ hR' hc' hs' (fun i hi => had i (by simpa using hi)) h0 (by simpa using hle) hret
theorem Ev.iald {id n : Nat} {i : Int32} (hd : decode y.2.1 pc = .ok (.iaload, 1)) (hlay : σ.1[id]? = some (.inr (0, n))) (hi : vp_in i n) (kk : Ev X d mc ms y (pc + 1) L (.int (σ.2.1 id i.toNatClampNeg) :: st) σ Q) : Ev X d mc ms y pc L (.int i :: .ref id :: st) σ Q := by
  intro p l e R s m args below meth c A ax cA D C H locs cells slots Qw ad ls hR hc hs hL K
  exact va_iald (D := D) (cA := cA 0) (f := σ.2.1 id) C.1 C.2.1 C.kk hR.2.2.2.1 id 0 (wl_get hlay) rfl hi hd (kk p l e R s m args below meth c A ax cA D C H locs cells slots Qw ad ls hR hc hs hL K)
theorem Ev.zald {id n : Nat} {i : Int32} (hd : decode y.2.1 pc = .ok (.baload, 1)) (hlay : σ.1[id]? = some (.inr (2, n))) (hi : vp_in i n) (kk : Ev X d mc ms y (pc + 1) L (.int (σ.2.1 id i.toNatClampNeg) :: st) σ Q) : Ev X d mc ms y pc L (.int i :: .ref id :: st) σ Q := by
  intro p l e R s m args below meth c A ax cA D C H locs cells slots Qw ad ls hR hc hs hL K
  exact va_zald (D := D) (cA := cA 2) (f := σ.2.1 id) C.1 C.2.1 C.kk hR.2.2.2.1 id 2 (wl_get hlay) rfl hi hd (kk p l e R s m args below meth c A ax cA D C H locs cells slots Qw ad ls hR hc hs hL K)
theorem Ev.lald {id n : Nat} {i : Int32} (hd : decode y.2.1 pc = .ok (.laload, 1)) (hlay : σ.1[id]? = some (.inr (1, n))) (hi : vp_in i n) (kk : Ev X d mc ms y (pc + 1) L (.long (σ.2.2 id i.toNatClampNeg) :: st) σ Q) : Ev X d mc ms y pc L (.int i :: .ref id :: st) σ Q := by
  intro p l e R s m args below meth c A ax cA D C H locs cells slots Qw ad ls hR hc hs hL K
  exact va_lald (D := D) (cA := cA 1) (f := σ.2.2 id) C.1 C.2.1 C.kk hR.2.2.2.1 id 1 (wl_get hlay) rfl hi hd (kk p l e R s m args below meth c A ax cA D C H locs cells slots Qw ad ls hR hc hs hL K)
theorem pI_row {h : HH} {i k : Nat} {v : Int32} : upd (h.1 i) k v = (pI h i k v).1 i := by funext b; simp [upd, pI]
theorem pL_row {h : HH} {i k : Nat} {v : Int64} : vp_updL (h.2 i) k v = (pL h i k v).2 i := by funext b; simp [vp_updL, pL]
theorem Ev.iast {id n : Nat} {i x : Int32} (hd : decode y.2.1 pc = .ok (.iastore, 1)) (hlay : σ.1[id]? = some (.inr (0, n))) (hi : vp_in i n) (kk : Ev X d mc ms y (pc + 1) L st (σ.1, pI σ.2 id i.toNatClampNeg x) Q) : Ev X d mc ms y pc L (.int x :: .int i :: .ref id :: st) σ Q := by
  intro p l e R s m args below meth c A ax cA D C H locs cells slots Qw ad ls hR hc hs hL K
  refine va_iast (D := D) (cA := cA 0) (f := σ.2.1 id) C.1 C.2.1 C.kk hR.2.2.2.1 hR.2.2.2.2.1 hR.2.2.2.2.2 id 0 (wl_get hlay) rfl hi hd (fun H1 locs1 hP1 hD1 hS1 => ?_)
  have ew : (wl ad cA σ.1 σ.2).set id (ad id, .inl (cA 0, n, .inl (upd (σ.2.1 id) i.toNatClampNeg x))) = wl ad cA σ.1 (pI σ.2 id i.toNatClampNeg x) :=
    wl_set (c' := .inr (0, n)) (set_self hlay).symm (by rw [pI_row]; rfl) (List.getElem?_eq_some_iff.mp hlay).1 pI_o
  rw [ew] at hP1 hD1
  exact kk p l e R s m args below meth c A ax cA D C H1 locs1 cells slots Qw ad ls ⟨hR.1, hR.2.1, hR.2.2.1, hP1, hD1, hS1⟩ hc hs hL K
theorem Ev.zast {id n : Nat} {i x : Int32} (hd : decode y.2.1 pc = .ok (.bastore, 1)) (hlay : σ.1[id]? = some (.inr (2, n))) (hi : vp_in i n) (kk : Ev X d mc ms y (pc + 1) L st (σ.1, pI σ.2 id i.toNatClampNeg (vp_nar .boolean x)) Q) : Ev X d mc ms y pc L (.int x :: .int i :: .ref id :: st) σ Q := by
  intro p l e R s m args below meth c A ax cA D C H locs cells slots Qw ad ls hR hc hs hL K
  refine va_zast (D := D) (cA := cA 2) (f := σ.2.1 id) C.1 C.2.1 C.kk hR.2.2.2.1 hR.2.2.2.2.1 hR.2.2.2.2.2 id 2 (wl_get hlay) rfl hi hd (fun H1 locs1 hP1 hD1 hS1 => ?_)
  have ew : (wl ad cA σ.1 σ.2).set id (ad id, .inl (cA 2, n, .inl (upd (σ.2.1 id) i.toNatClampNeg (vp_nar .boolean x)))) = wl ad cA σ.1 (pI σ.2 id i.toNatClampNeg (vp_nar .boolean x)) :=
    wl_set (c' := .inr (2, n)) (set_self hlay).symm (by rw [pI_row]; rfl) (List.getElem?_eq_some_iff.mp hlay).1 pI_o
  rw [ew] at hP1 hD1
  exact kk p l e R s m args below meth c A ax cA D C H1 locs1 cells slots Qw ad ls ⟨hR.1, hR.2.1, hR.2.2.1, hP1, hD1, hS1⟩ hc hs hL K
theorem Ev.last {id n : Nat} {i : Int32} {x : Int64} (hd : decode y.2.1 pc = .ok (.lastore, 1)) (hlay : σ.1[id]? = some (.inr (1, n))) (hi : vp_in i n) (kk : Ev X d mc ms y (pc + 1) L st (σ.1, pL σ.2 id i.toNatClampNeg x) Q) : Ev X d mc ms y pc L (.long x :: .int i :: .ref id :: st) σ Q := by
  intro p l e R s m args below meth c A ax cA D C H locs cells slots Qw ad ls hR hc hs hL K
  refine va_last (D := D) (cA := cA 1) (f := σ.2.2 id) C.1 C.2.1 C.kk hR.2.2.2.1 hR.2.2.2.2.1 hR.2.2.2.2.2 id 1 (wl_get hlay) rfl hi hd (fun H1 locs1 hP1 hD1 hS1 => ?_)
  have ew : (wl ad cA σ.1 σ.2).set id (ad id, .inl (cA 1, n, .inr (.inl (vp_updL (σ.2.2 id) i.toNatClampNeg x)))) = wl ad cA σ.1 (pL σ.2 id i.toNatClampNeg x) :=
    wl_set (c' := .inr (1, n)) (set_self hlay).symm (by rw [pL_row]; rfl) (List.getElem?_eq_some_iff.mp hlay).1 pL_o
  rw [ew] at hP1 hD1
  exact kk p l e R s m args below meth c A ax cA D C H1 locs1 cells slots Qw ad ls ⟨hR.1, hR.2.1, hR.2.2.1, hP1, hD1, hS1⟩ hc hs hL K
theorem Ev.alen {id t n : Nat} {v : Int32} (hd : decode y.2.1 pc = .ok (.arraylength, 1)) (hlay : σ.1[id]? = some (.inr (t, n))) (ht : t < 3) (hv : Int32.ofNat n = v) (kk : Ev X d mc ms y (pc + 1) L (.int v :: st) σ Q) : Ev X d mc ms y pc L (.ref id :: st) σ Q := by
  intro p l e R s m args below meth c A ax cA D C H locs cells slots Qw ad ls hR hc hs hL K
  have ⟨ty, hty⟩ : ∃ ty, (tys cA)[t]? = some (cA t, ty) := by
    match t, ht with
    | 0, _ => exact ⟨_, rfl⟩
    | 1, _ => exact ⟨_, rfl⟩
    | 2, _ => exact ⟨_, rfl⟩
  exact va_alen (D := D) (cA := cA t) C.1 C.2.1 C.kk hR.2.2.2.1 id t (wl_get hlay) hty hv hd (kk p l e R s m args below meth c A ax cA D C H locs cells slots Qw ad ls hR hc hs hL K)
def adn (ad : Nat → Nat) (n q : Nat) : Nat → Nat := fun i => if i = n then q else ad i
theorem okc_ad {ad : Nat → Nat} {cA : Nat → ClassId} {h : HH} {n q i : Nat} {c : LC} (hn : n < 900) (hc : okc n c = true) : ce (adn ad n q) cA h i c = ce ad cA h i c := by
  refine ce_ad (fun ci ks hq j hj => ?_)
  subst hq
  have := List.all_eq_true.mp hc _ hj
  simp only [Bool.or_eq_true, decide_eq_true_eq] at this
  unfold adn
  rw [if_neg (by omega)]
theorem wl_push {ad : Nat → Nat} {cA : Nat → ClassId} {lay : List LC} {h h' : HH} {q : Nat} {c : LC} (hn : lay.length < 900) (hl : okl lay = true) (ho : ∀ j, j ≠ lay.length → h'.1 j = h.1 j ∧ h'.2 j = h.2 j) :
    wl (adn ad lay.length q) cA (lay ++ [c]) h' = wl ad cA lay h ++ [(q, ce (adn ad lay.length q) cA h' lay.length c)] := by
  unfold wl
  rw [List.length_append, List.length_singleton, List.range_succ, List.map_append, List.map_singleton]
  congr 1
  · apply List.map_congr_left
    intro j hj
    have hj : j < lay.length := List.mem_range.mp hj
    have h1 : (lay ++ [c]).getD j (.inr (0, 0)) = lay.getD j (.inr (0, 0)) := by simp [List.getElem?_append_left hj]
    have hm : lay.getD j (.inr (0, 0)) ∈ lay := by simp [hj]
    rw [h1, okc_ad hn (List.all_eq_true.mp hl _ hm)]
    obtain ⟨e1, e2⟩ := ho j (by omega)
    have h2 : ∀ cc : LC, ce ad cA h' j cc = ce ad cA h j cc := by
      intro cc
      cases cc with
      | inl o => obtain ⟨ci, ks⟩ := o; simp only [ce]; congr 3; funext k; unfold fv; rw [e1]
      | inr o => obtain ⟨t, n⟩ := o; simp only [ce, ca, e1, e2]
    rw [h2]
    simp only [adn, if_neg (show ¬ j = lay.length by omega)]
  · simp [adn]
theorem okc_up {n : Nat} {c : LC} (h : okc n c = true) : okc (n + 1) c = true := by
  cases c with
  | inr o => rfl
  | inl o =>
    obtain ⟨ci, ks⟩ := o
    simp only [okc] at h ⊢
    rw [List.all_eq_true] at h ⊢
    intro x hx
    have := h x hx
    cases x with
    | none => rfl
    | some z => cases z with
      | none => rfl
      | some j => simp only [Bool.or_eq_true, decide_eq_true_eq] at this ⊢; omega
theorem okl_push {lay : List LC} {c : LC} (h : okl lay = true) (hc : okc lay.length c = true) : okl (lay ++ [c]) = true := by
  unfold okl at *
  rw [List.all_eq_true] at *
  intro x hx
  rw [List.length_append, List.length_singleton]
  rcases List.mem_append.mp hx with h1 | h1
  · exact okc_up (h x h1)
  · rw [List.mem_singleton.mp h1]; exact okc_up hc
theorem tr_ok {ad ad' : Nat → Nat} {n : Nat} {v : Value} (h : okv n v = true) (ha : ∀ i, i < n ∨ 1000 ≤ i → ad' i = ad i) : tr ad' v = tr ad v := by
  cases v with
  | ref i => simp only [okv, Bool.or_eq_true, decide_eq_true_eq] at h; simp only [tr]; rw [ha i h]
  | _ => rfl
theorem lr_ok {ad ad' : Nat → Nat} {n nL : Nat} {ls : Array Slot} {L : List Value} (h : L.all (okv n) = true) (ha : ∀ i, i < n ∨ 1000 ≤ i → ad' i = ad i) (hL : lr ad ls nL L) : lr ad' ls nL L :=
  ⟨hL.1, hL.2.1, fun i v h1 h2 => by rw [tr_ok (List.all_eq_true.mp h v (List.mem_of_getElem? h1)) ha]; exact hL.2.2 i v h1 h2⟩
theorem st_ok {ad ad' : Nat → Nat} {n : Nat} {st : List Value} (h : st.all (okv n) = true) (ha : ∀ i, i < n ∨ 1000 ≤ i → ad' i = ad i) : st.map (tr ad') = st.map (tr ad) :=
  List.map_congr_left (fun v hv => tr_ok (List.all_eq_true.mp h v hv) ha)
theorem adn_old {ad : Nat → Nat} {n q : Nat} (hn : n < 900) : ∀ i, i < n ∨ 1000 ≤ i → adn ad n q i = ad i := fun i hi => by unfold adn; rw [if_neg (by omega)]
theorem zR_o {h : HH} {i : Nat} : ∀ j, j ≠ i → (zR h i).1 j = h.1 j ∧ (zR h i).2 j = h.2 j := fun j hj => ⟨by funext b; simp [zR, hj], by funext b; simp [zR, hj]⟩
theorem va_RA_eq {U : State} {a b : ClassId} {t : FieldType} (ht : t = .int ∨ t = .long ∨ t = .boolean) (h1 : va_RA U a t) (h2 : va_RA U b t) : a = b := by
  rcases ht with rfl | rfl | rfl
  all_goals
    have h1 : U.vm.findClass _ = some a := h1
    have h2 : U.vm.findClass _ = some b := h2
    exact Option.some.inj (h1.symm.trans h2)
theorem Ev.newa {at_ : ArrayType} {ty : FieldType} {t n : Nat} {v : Int32} (hd : decode y.2.1 pc = .ok (.newarray at_, 2)) (ht : t < 3) (hty : newarray.typeOf at_ = ty) (htt : ∀ cA, (tys cA)[t]? = some (cA t, ty)) (hw : Cond.arrayClass (newarray.typeOf at_) ∈ gtbl) (hn : ¬ v < 0) (hN : v.toNatClampNeg = n) (hN2 : n * componentBytes ty ≤ 536870912) (hlen : σ.1.length < 900)
    (hok : (L ++ st).all (okv σ.1.length) = true) (kk : Ev X d mc ms y (pc + 2) L (.ref σ.1.length :: st) (σ.1 ++ [.inr (t, n)], zR σ.2 σ.1.length) Q) : Ev X d (mc + 1) (ms + n) y pc L (.int v :: st) σ Q := by
  intro p l e R s m args below meth c A ax cA D C H locs cells slots Qw ad ls hR hc hs hL K
  obtain ⟨hok1, hok2⟩ := Bool.and_eq_true_iff.mp (by rw [← List.all_append]; exact hok)
  have ha0 : ∀ c0 : ClassId, vp_cell c0 (n, ca (zR σ.2 σ.1.length) σ.1.length t) = arrV c0 n (fun _ => defaultValue ty) := by
    intro c0
    have h0 := htt (fun _ => c0)
    match t, ht with
    | 0, _ => simp [tys] at h0; subst h0; simp [ca, zR, vp_cell, defaultValue]
    | 1, _ => simp [tys] at h0; subst h0; simp [ca, zR, vp_cell, defaultValue]
    | 2, _ => simp [tys] at h0; subst h0; simp [ca, zR, vp_cell, defaultValue]
  refine va_newa (D := D) (ty := ty) C.1 C.2.1 (C.w hw) hty C.kk hR.2.2.2.1 hR.2.2.2.2.1 hR.2.2.2.2.2 C.2.2.2.2.2.2.2.2.2.2.2.2.1 ha0 hn hN hN2 (by omega) (by omega) hd (fun q cQ H1 hK1 hP1 hD1 hS1 => ?_)
  have hcQ : cQ = cA t := by
    have h1 := (hK1.2 (tys cA).length (cQ, ty) (by simp)).2
    have h2 := (C.kk.2 t _ (htt cA)).2
    refine va_RA_eq ?_ h1 h2
    have h0 := htt cA
    match t, ht with
    | 0, _ => simp [tys] at h0; exact Or.inl h0.symm
    | 1, _ => simp [tys] at h0; exact Or.inr (Or.inl h0.symm)
    | 2, _ => simp [tys] at h0; exact Or.inr (Or.inr h0.symm)
  subst hcQ
  have ew : wl (adn ad σ.1.length q) cA (σ.1 ++ [.inr (t, n)]) (zR σ.2 σ.1.length) = _ := wl_push (ad := ad) (cA := cA) (q := q) (c := .inr (t, n)) hlen hR.2.1 (zR_o (h := σ.2))
  have hP2 : va_P D vwCl (wl (adn ad σ.1.length q) cA (σ.1 ++ [.inr (t, n)]) (zR σ.2 σ.1.length)) H1 := by rw [ew]; exact hP1
  have hD2 : va_D A (wl (adn ad σ.1.length q) cA (σ.1 ++ [.inr (t, n)]) (zR σ.2 σ.1.length)) := by rw [ew]; exact hD1
  have hal := adn_old (ad := ad) (q := q) hlen
  rw [← st_ok hok2 hal]
  refine (show W p l e R s m args below meth c H1 locs (cells + 1) (slots + n) Qw (F0 m (pc + 2) ls ((Value.ref σ.1.length :: st).map (tr (adn ad σ.1.length q)))) → _ from fun h => by simpa [tr, adn] using h) ?_
  refine kk p l e R s m args below meth c A ax cA D C H1 locs (cells + 1) (slots + n) Qw (adn ad σ.1.length q) ls ⟨by simp; omega, okl_push hR.2.1 rfl, fun i hi => by rw [hal i (Or.inr hi)]; exact hR.2.2.1 i hi, hP2, hD2, hS1⟩ (by omega) (by omega) (lr_ok hok1 hal hL) ?_
  intro r σ' H' locs' cells' slots' ad' ls' pc' hQ hR' hc' hs' had h0 hle hret
  have hle : σ.1.length + 1 ≤ σ'.1.length := by simpa using hle
  exact K r σ' H' locs' cells' slots' ad' ls' pc' hQ hR' (by omega) (by omega) (fun i hi => by rw [had i (by simp; omega), hal i hi]) (fun h => by omega) (by omega) hret
theorem Ev.new_ {ix ci N : Nat} {Cn : String} {T : u_T} {ty0 : Nat → FieldType} {ks : List (Option (Option Nat))} (hd : decode y.2.1 pc = .ok (.new ix, 3)) (hin : ∀ w ∈ u_ws Cn T N, w ∈ gtbl) (hty : ∀ k, k < N → parseFieldDescriptor (T k).2.2.1 = some (ty0 k)) (hcl : vwCl[ci]? = some (Cn, T, N))
    (hw1 : Cond.classLink y.1.cls ix Cn ∈ gtbl) (hw2 : Cond.instantiable Cn N ∈ gtbl) (hw3 : Cond.initialized Cn ∈ gtbl) (hks : ks.length = N) (hkd : ∀ k, k < N → (ks[k]? = some none ∧ defaultValue (ty0 k) = .int 0) ∨ (ks[k]? = some (some none) ∧ defaultValue (ty0 k) = .null)) (hlen : σ.1.length < 900)
    (hok : (L ++ st).all (okv σ.1.length) = true) (kk : Ev X d mc ms y (pc + 3) L (.ref σ.1.length :: st) (σ.1 ++ [.inl (ci, ks)], zR σ.2 σ.1.length) Q) : Ev X d (mc + 1) (ms + N) y pc L st σ Q := by
  intro p l e R s m args below meth c A ax cA D C H locs cells slots Qw ad ls hR hc hs hL K
  obtain ⟨hok1, hok2⟩ := Bool.and_eq_true_iff.mp (by rw [← List.all_append]; exact hok)
  have hfs : ∀ j, j < N → defaultValue (ty0 j) = vp_V ((List.range ks.length).map (fun k => fv (adn ad σ.1.length 0) (zR σ.2 σ.1.length) σ.1.length k (ks.getD k none))) j := by
    intro j hj
    simp only [vp_V, List.getD_eq_getElem?_getD, List.getElem?_map, List.getElem?_range (show j < ks.length by omega), Option.map_some, Option.getD_some]
    rcases hkd j hj with ⟨h1, h2⟩ | ⟨h1, h2⟩
    · simp [h1, h2, fv, zR]
    · simp [h1, h2, fv]
  refine va_new (D := D) C.1 C.2.1 C.tbl hin ty0 hty C.own (C.w hw1) (C.w hw2) (C.w hw3) C.kk hR.2.2.2.1 hR.2.2.2.2.1 hR.2.2.2.2.2 C.2.2.2.2.2.2.2.2.2.2.2.2.1 hcl hfs (by omega) (by omega) hd (fun q H1 hP1 hD1 hS1 => ?_)
  have hkc : okc σ.1.length (.inl (ci, ks)) = true := by
    simp only [okc]
    rw [List.all_eq_true]
    intro x hx
    obtain ⟨k, hk⟩ := List.getElem?_of_mem hx
    have hkl : k < ks.length := (List.getElem?_eq_some_iff.mp hk).1
    rcases hkd k (by omega) with ⟨h1, -⟩ | ⟨h1, -⟩ <;> rw [h1] at hk <;> cases hk <;> rfl
  have ew : wl (adn ad σ.1.length q) cA (σ.1 ++ [.inl (ci, ks)]) (zR σ.2 σ.1.length) = _ := wl_push (ad := ad) (cA := cA) (q := q) (c := .inl (ci, ks)) hlen hR.2.1 (zR_o (h := σ.2))
  have e2 : ce (adn ad σ.1.length q) cA (zR σ.2 σ.1.length) σ.1.length (.inl (ci, ks)) = .inr (ci, (List.range ks.length).map (fun k => fv (adn ad σ.1.length 0) (zR σ.2 σ.1.length) σ.1.length k (ks.getD k none))) := by
    show ce (adn ad σ.1.length q) cA (zR σ.2 σ.1.length) σ.1.length (.inl (ci, ks)) = ce (adn ad σ.1.length 0) cA (zR σ.2 σ.1.length) σ.1.length (.inl (ci, ks))
    rw [okc_ad hlen hkc, okc_ad hlen hkc]
  rw [e2] at ew
  have hP2 : va_P D vwCl (wl (adn ad σ.1.length q) cA (σ.1 ++ [.inl (ci, ks)]) (zR σ.2 σ.1.length)) H1 := by rw [ew]; exact hP1
  have hD2 : va_D A (wl (adn ad σ.1.length q) cA (σ.1 ++ [.inl (ci, ks)]) (zR σ.2 σ.1.length)) := by rw [ew]; exact hD1
  have hal := adn_old (ad := ad) (q := q) hlen
  rw [← st_ok hok2 hal]
  refine (show W p l e R s m args below meth c H1 locs (cells + 1) (slots + N) Qw (F0 m (pc + 3) ls ((Value.ref σ.1.length :: st).map (tr (adn ad σ.1.length q)))) → _ from fun h => by simpa [tr, adn] using h) ?_
  refine kk p l e R s m args below meth c A ax cA D C H1 locs (cells + 1) (slots + N) Qw (adn ad σ.1.length q) ls ⟨by simp; omega, okl_push hR.2.1 hkc, fun i hi => by rw [hal i (Or.inr hi)]; exact hR.2.2.1 i hi, hP2, hD2, hS1⟩ (by omega) (by omega) (lr_ok hok1 hal hL) ?_
  intro r σ' H' locs' cells' slots' ad' ls' pc' hQ hR' hc' hs' had h0 hle hret
  have hle : σ.1.length + 1 ≤ σ'.1.length := by simpa using hle
  exact K r σ' H' locs' cells' slots' ad' ls' pc' hQ hR' (by omega) (by omega) (fun i hi => by rw [had i (by simp; omega), hal i hi]) (fun h => by omega) (by omega) hret
/-! the tables and the script -/
theorem Cx.ext {y : MI} {p : Program} {R : Room} {s : State} {m : MethodId} {args : Array Value} {meth : Method} {c : Code} {A : Nat → Prop} {ax : Nat → Nat} {cA : Nat → ClassId} {D : va_G} (C : Cx X y d p R s m args meth c A ax cA D) : Ext X A s ax s.heap := C.2.2.2.2.2.2.2.2.2.2.2.2.2
theorem Ev.tAbove {i : Int32} (hd : decode y.2.1 pc = .ok (.iaload, 1)) (hi : vp_in i 6) (kk : Ev X d mc ms y (pc + 1) L (.int (kAbove i.toNatClampNeg) :: st) σ Q) : Ev X d mc ms y pc L (.int i :: .ref 1000 :: st) σ Q := by
  intro p l e R s m args below meth c A ax cA D C H locs cells slots Qw ad ls hR hc hs hL K
  simp only [List.map_cons, tr, hR.2.2.1 1000 (Nat.le_refl _)]
  exact va_ti C.1 C.2.1 C.ext.1 hR.2.2.2.2.2 hi rfl hd (kk p l e R s m args below meth c A ax cA D C H locs cells slots Qw ad ls hR hc hs hL K)
theorem Ev.tBodies {i : Int32} (hd : decode y.2.1 pc = .ok (.iaload, 1)) (hi : vp_in i 24) (kk : Ev X d mc ms y (pc + 1) L (.int (kBodies i.toNatClampNeg) :: st) σ Q) : Ev X d mc ms y pc L (.int i :: .ref 1001 :: st) σ Q := by
  intro p l e R s m args below meth c A ax cA D C H locs cells slots Qw ad ls hR hc hs hL K
  simp only [List.map_cons, tr, hR.2.2.1 1001 (by omega)]
  exact va_ti C.1 C.2.1 C.ext.2.1 hR.2.2.2.2.2 hi rfl hd (kk p l e R s m args below meth c A ax cA D C H locs cells slots Qw ad ls hR hc hs hL K)
theorem Ev.tPows {i : Int32} (hd : decode y.2.1 pc = .ok (.laload, 1)) (hi : vp_in i 12) (kk : Ev X d mc ms y (pc + 1) L (.long (kPows i.toNatClampNeg) :: st) σ Q) : Ev X d mc ms y pc L (.int i :: .ref 1002 :: st) σ Q := by
  intro p l e R s m args below meth c A ax cA D C H locs cells slots Qw ad ls hR hc hs hL K
  simp only [List.map_cons, tr, hR.2.2.1 1002 (by omega)]
  exact va_tl C.1 C.2.1 C.ext.2.2.1 hR.2.2.2.2.2 hi rfl hd (kk p l e R s m args below meth c A ax cA D C H locs cells slots Qw ad ls hR hc hs hL K)
theorem Ev.tScript {i : Int32} (hd : decode y.2.1 pc = .ok (.iaload, 1)) (hi : vp_in i X.1) (kk : Ev X d mc ms y (pc + 1) L (.int (X.2 i.toNatClampNeg) :: st) σ Q) : Ev X d mc ms y pc L (.int i :: .ref 1003 :: st) σ Q := by
  intro p l e R s m args below meth c A ax cA D C H locs cells slots Qw ad ls hR hc hs hL K
  simp only [List.map_cons, tr, hR.2.2.1 1003 (by omega)]
  exact va_ti C.1 C.2.1 C.ext.2.2.2.1 hR.2.2.2.2.2 hi rfl hd (kk p l e R s m args below meth c A ax cA D C H locs cells slots Qw ad ls hR hc hs hL K)
theorem Ev.tScriptLen (hd : decode y.2.1 pc = .ok (.arraylength, 1)) (kk : Ev X d mc ms y (pc + 1) L (.int (Int32.ofNat X.1) :: st) σ Q) : Ev X d mc ms y pc L (.ref 1003 :: st) σ Q := by
  intro p l e R s m args below meth c A ax cA D C H locs cells slots Qw ad ls hR hc hs hL K
  simp only [List.map_cons, tr, hR.2.2.1 1003 (by omega)]
  exact va_tlen C.1 C.2.1 C.ext.2.2.2.1 hR.2.2.2.2.2 rfl hd (kk p l e R s m args below meth c A ax cA D C H locs cells slots Qw ad ls hR hc hs hL K)
theorem Ev.sAbove {ix : Nat} (hd : decode y.2.1 pc = .ok (.getstatic ix, 3)) (hw : Cond.fieldLink y.1.cls ix "FamineCode" "KIND_ABOVE" "[I" ∈ gtbl) (kk : Ev X d mc ms y (pc + 3) L (.ref 1000 :: st) σ Q) : Ev X d mc ms y pc L st σ Q := by
  intro p l e R s m args below meth c A ax cA D C H locs cells slots Qw ad ls hR hc hs hL K
  have := kk p l e R s m args below meth c A ax cA D C H locs cells slots Qw ad ls hR hc hs hL K
  simp only [List.map_cons, tr, hR.2.2.1 1000 (Nat.le_refl _)] at this
  exact va_gets C.1 C.2.1 C.ext.2.2.2.2.1 hR.2.2.2.2.2 C.own (C.w hw) (fun _ h => h) hd this
theorem Ev.sAboveN {ix : Nat} {host : String} (hd : decode y.2.1 pc = .ok (.getstatic ix, 3)) (hw : Cond.fieldLinkNest y.1.cls ix "FamineCode" "KIND_ABOVE" "[I" host ∈ ntbl) (kk : Ev X d mc ms y (pc + 3) L (.ref 1000 :: st) σ Q) : Ev X d mc ms y pc L st σ Q := by
  intro p l e R s m args below meth c A ax cA D C H locs cells slots Qw ad ls hR hc hs hL K
  have := kk p l e R s m args below meth c A ax cA D C H locs cells slots Qw ad ls hR hc hs hL K
  simp only [List.map_cons, tr, hR.2.2.1 1000 (Nat.le_refl _)] at this
  exact va_getsN C.1 C.2.1 C.ext.2.2.2.2.1 hR.2.2.2.2.2 C.own (va_Nw.use rfl (C.2.2.2.2.2.2.2.2.1 _ hw)) (fun _ h => h) hd this
theorem Ev.sBodies {ix : Nat} (hd : decode y.2.1 pc = .ok (.getstatic ix, 3)) (hw : Cond.fieldLink y.1.cls ix "FamineCode$Acts" "BODIES" "[I" ∈ gtbl) (kk : Ev X d mc ms y (pc + 3) L (.ref 1001 :: st) σ Q) : Ev X d mc ms y pc L st σ Q := by
  intro p l e R s m args below meth c A ax cA D C H locs cells slots Qw ad ls hR hc hs hL K
  have := kk p l e R s m args below meth c A ax cA D C H locs cells slots Qw ad ls hR hc hs hL K
  simp only [List.map_cons, tr, hR.2.2.1 1001 (by omega)] at this
  exact va_gets C.1 C.2.1 C.ext.2.2.2.2.2.1 hR.2.2.2.2.2 C.own (C.w hw) (fun _ h => h) hd this
theorem Ev.sPows {ix : Nat} (hd : decode y.2.1 pc = .ok (.getstatic ix, 3)) (hw : Cond.fieldLink y.1.cls ix "FamineCode$Carts" "POWERS_OF_3" "[J" ∈ gtbl) (kk : Ev X d mc ms y (pc + 3) L (.ref 1002 :: st) σ Q) : Ev X d mc ms y pc L st σ Q := by
  intro p l e R s m args below meth c A ax cA D C H locs cells slots Qw ad ls hR hc hs hL K
  have := kk p l e R s m args below meth c A ax cA D C H locs cells slots Qw ad ls hR hc hs hL K
  simp only [List.map_cons, tr, hR.2.2.1 1002 (by omega)] at this
  exact va_gets C.1 C.2.1 C.ext.2.2.2.2.2.2 hR.2.2.2.2.2 C.own (C.w hw) (fun _ h => h) hd this
theorem Ev.objInit {ix id : Nat} (hd : decode y.2.1 pc = .ok (.invokespecial ix, 3)) (hw1 : Cond.methodLink y.1.cls ix Lib.objectInit ∈ gtbl) (hw2 : Cond.instanceMethod Lib.objectInit ∈ gtbl) (hw3 : Cond.code Lib.objectInit ⟨#[0xb1]⟩ 1 none ∈ gtbl) (hcat : (st.map (fun v => v.category)).sum ≤ 8) (hd1 : 1 ≤ d) (kk : Ev X d mc ms y (pc + 3) L st σ Q) : Ev X d mc ms y pc L (.ref id :: st) σ Q := by
  intro p l e R s m args below meth c A ax cA D C H locs cells slots Qw ad ls hR hc hs hL K
  have hcat2 : ((st.map (tr ad)).map (fun v => v.category)).sum ≤ 8 := by rw [List.map_map]; simpa [Function.comp_def, tr_cat] using hcat
  have hfr := C.2.2.2.2.2.2.2.2.2.1
  have hlo := C.2.2.2.2.2.2.2.2.2.2.1
  refine W.objInit C.1 C.2.1 C.own (C.w hw1) (C.w hw2) (C.w hw3) rfl (by rw [C.2.2.1]; exact hL.1) rfl hd (by omega) ?_ (kk p l e R s m args below meth c A ax cA D C H locs cells slots Qw ad ls hR hc hs hL K)
  show 2 * 0 + _ + 12 ≤ R.locals
  omega
theorem Ev.copyi {ix i j n0 n1 : Nat} {sp dp n : Int32} (hd : decode y.2.1 pc = .ok (.invokestatic ix, 3)) (hw1 : Cond.methodLink y.1.cls ix arraycopyName ∈ gtbl) (hw2 : Cond.native arraycopyName ∈ gtbl) (hw3 : Cond.static arraycopyName ∈ gtbl) (hw4 : Cond.initialized "java/lang/System" ∈ gtbl)
    (hi : σ.1[i]? = some (.inr (0, n0))) (hj : σ.1[j]? = some (.inr (0, n1))) (h1 : ¬ sp < 0) (h2 : ¬ dp < 0) (h3 : ¬ n < 0) (h4 : sp.toNatClampNeg + n.toNatClampNeg ≤ n0) (h5 : dp.toNatClampNeg + n.toNatClampNeg ≤ n1) (hcat : (st.map (fun v => v.category)).sum ≤ 8) (hd1 : 1 ≤ d)
    (kk : Ev X d mc ms y (pc + 3) L st (σ.1, cR σ.2 i j sp.toNatClampNeg dp.toNatClampNeg n.toNatClampNeg) Q) : Ev X d mc ms y pc L (.int n :: .int dp :: .ref j :: .int sp :: .ref i :: st) σ Q := by
  intro p l e R s m args below meth c A ax cA D C H locs cells slots Qw ad ls hR hc hs hL K
  have hcat2 : ((st.map (tr ad)).map (fun v => v.category)).sum ≤ 8 := by rw [List.map_map]; simpa [Function.comp_def, tr_cat] using hcat
  have hfr := C.2.2.2.2.2.2.2.2.2.1
  have hlo := C.2.2.2.2.2.2.2.2.2.2.1
  refine va_copyi (D := D) (c0 := cA 0) (c1 := cA 0) (f := σ.2.1 i) (g := σ.2.1 j) (ty := .int) C.1 C.2.1 (by rw [C.2.2.1, hL.1]) C.own (C.w hw1) (C.w hw2) (C.w hw3) (C.w hw4) C.kk hR.2.2.2.1 hR.2.2.2.2.1 hR.2.2.2.2.2 i j 0 0 (wl_get hi) (wl_get hj) rfl rfl rfl h1 h2 h3 h4 h5 (fun _ _ => rfl) (by omega) (Nat.le_trans (Nat.add_le_add_right hcat2 _) (Nat.le_trans (show _ ≤ 64 by decide +kernel) (by omega))) hd (fun H1 locs1 hP1 hD1 hS1 => ?_)
  have ew : (wl ad cA σ.1 σ.2).set j (ad j, .inl (cA 0, n1, .inl (va_cpy (σ.2.1 i) (σ.2.1 j) sp.toNatClampNeg dp.toNatClampNeg n.toNatClampNeg))) = wl ad cA σ.1 (cR σ.2 i j sp.toNatClampNeg dp.toNatClampNeg n.toNatClampNeg) := by
    refine wl_set (c' := .inr (0, n1)) (set_self hj).symm ?_ (List.getElem?_eq_some_iff.mp hj).1 cR_o
    simp [ce, ca, cR]
  rw [ew] at hP1 hD1
  exact kk p l e R s m args below meth c A ax cA D C H1 locs1 cells slots Qw ad ls ⟨hR.1, hR.2.1, hR.2.2.1, hP1, hD1, hS1⟩ hc hs hL K
end EV
