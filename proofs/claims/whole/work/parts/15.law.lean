def R_law : String := "FamineCodeLaw"
def lw_P (b : Addr) (xs : List Int32) (args : Array Value) (s : State) : Prop := args = #[.ref b] ∧ s.IntsAt b xs ∧ xs.length ≤ 3584 ∧ (Jvm.Cond.and given_1 narrow_1).before args s = true
def lw_Q (_ : Array Value) (s : State) (o : Outcome) (t : State) : Prop := o = .returned (some (.int 1)) ∧ Framed s o t [] 600000 7302250
def lw_Z (below : List Frame) (a : Array Value) (s : State) : State → Prop := fun t => ∃ o, t.status = .running ∧ Ended t below o ∧ lw_Q a s o t
/-- the law's own end, with 1 on the stack, nothing written that was there before, its room as the claim has it -/
theorem lw_ret {p : Program} {l : Launch} {e : Env} {s : State} {m : MethodId} {below : List Frame} {meth : Method} {c : Code} {b : Nat} (hx : p.tables.exec = Jvm.exec) (hb : c.code = code) (hr : meth.sig.returnType = ret) (hlocks : meth.locks = false) {pc : Nat} {H : Heap} {ls : Array Slot} (hdg : decode code pc = .ok (.ireturn, 1)) : W p l e room_1 s m #[Value.ref b] below meth c H [] 600000 7302250 (lw_Z below #[Value.ref b] s) (F0 m pc ls [.int 1]) := by
  intro T hT X
  obtain ⟨fs, hret, hrun, hended, hW, hframe⟩ := X.leave (v := some (.int 1)) (hlocks := hlocks) (fun h => by rw [hr] at h; cases h)
  have hmeth' : T.vm.method? m = some meth := X.method'
  refine ⟨T.setFrames fs, ?_, .returned (some (.int 1)), hrun, hended, rfl, ⟨_, rfl⟩, hW, hframe⟩
  jvm_step X.here [X.here.top, hx, hb, hdg, hmeth', hr, ret, narrow_b1]
  (try refine ⟨rfl, ?_⟩); (try refine ⟨rfl, ?_⟩)
  first | (intro acts; rw [hret _ acts rfl rfl rfl]) | rw [hret _ _ rfl rfl rfl]
  exact Steps.refl _
/-- what holds at the law's entry: the machine, the code, the tables' words (any of lw_tbl by 'hts w (by decide +kernel)'), the script of L ints xs at the cell b, what the Statement gives of the start (any of its parts by flat_of_before) -/
def lw_At (p : Program) (s : State) (m : MethodId) (meth : Method) (c : Code) (b L : Nat) (xs : Nat → Int32) : Prop :=
  p.tables.exec = Jvm.exec ∧ c.code = code ∧ meth.sig.returnType = ret ∧ c.maxLocals = 4 ∧ s.vm.findClass R_law = some m.cls ∧ (∀ w ∈ lw_tbl, w.before #[Value.ref b] s = true) ∧ va_X b L xs s s.heap ∧ b < s.heap.size ∧ meth.locks = false ∧ (Jvm.Cond.and given_1 narrow_1).before #[Value.ref b] s = true
theorem tys_of {s : State} {args : Array Value} {ty : FieldType} (ht : ty = .int ∨ ty = .long ∨ ty = .boolean) (h : (Cond.arrayClass ty).before args s = true) : ∃ c : ClassId, ArrOfT s c ty ∧ va_RA s c ty := by
  obtain ⟨c, k, comp, h1, h2, h3⟩ := Cond.arrayClass_spec h
  refine ⟨c, fun n z => ⟨fun k h => (by cases h), k, h2, comp, h3⟩, ?_⟩
  rcases ht with rfl | rfl | rfl <;> exact h1
theorem script_T {b L : Nat} {xs : Nat → Int32} {A : Nat → Prop} {U : State} {H : Heap} (hA : ¬ A b) (h : va_X b L xs U H) : va_T .int b L (fun j => .int (xs j)) A U H := by
  obtain ⟨scr, h1, h2, h3, h4, h5⟩ := h
  exact ⟨scr, h1, h2, h3, by omega, by rw [h4], h5, hA⟩
theorem tab_0 {s : State} {args : Array Value} {A : Nat → Prop} (hg : ∀ w ∈ lw_tbl, w.before args s = true) (hgv : (Jvm.Cond.and given_1 narrow_1).before args s = true) (hA : ∀ a : Nat, a < s.heap.size → ¬ A a) : ∃ t : Nat, va_T .int t 6 (fun j => .int (kAbove j)) A s s.heap ∧ va_Z "FamineCode" "KIND_ABOVE" "[I" (.ref t) A s s.heap := by
  have hq := flat_of_before _ hgv
  obtain ⟨t, h1, h2⟩ := va_Tof (tm := .static "FamineCode" "KIND_ABOVE" "[I") (ty := .int) (N := 6) (f := fun j => .int (kAbove j)) (A := A) (by omega) (hq _ (by decide +kernel)) (va_eqt (z := 6) (hq (.eq (.length (.static "FamineCode" "KIND_ABOVE" "[I")) (.int 6)) (by decide +kernel))) (fun j hj => by
    match j, hj with
    | 0, _ => exact va_eqt (z := (-1)) (hq (.eq (.elem (.static "FamineCode" "KIND_ABOVE" "[I") (.int 0)) (.int (-1))) (by decide +kernel))
    | 1, _ => exact va_eqt (z := 0) (hq (.eq (.elem (.static "FamineCode" "KIND_ABOVE" "[I") (.int 1)) (.int 0)) (by decide +kernel))
    | 2, _ => exact va_eqt (z := 1) (hq (.eq (.elem (.static "FamineCode" "KIND_ABOVE" "[I") (.int 2)) (.int 1)) (by decide +kernel))
    | 3, _ => exact va_eqt (z := 0) (hq (.eq (.elem (.static "FamineCode" "KIND_ABOVE" "[I") (.int 3)) (.int 0)) (by decide +kernel))
    | 4, _ => exact va_eqt (z := 0) (hq (.eq (.elem (.static "FamineCode" "KIND_ABOVE" "[I") (.int 4)) (.int 0)) (by decide +kernel))
    | 5, _ => exact va_eqt (z := 4) (hq (.eq (.elem (.static "FamineCode" "KIND_ABOVE" "[I") (.int 5)) (.int 4)) (by decide +kernel))
    | _ + 6, h => exact absurd h (by omega)) hA
  exact ⟨t, h2, va_Zref (hg _ (List.mem_of_getElem? (i := 745) (by decide +kernel))) (hg _ (List.mem_of_getElem? (i := 62) (by decide +kernel))) h1 hA⟩
theorem tab_1 {s : State} {args : Array Value} {A : Nat → Prop} (hg : ∀ w ∈ lw_tbl, w.before args s = true) (hgv : (Jvm.Cond.and given_1 narrow_1).before args s = true) (hA : ∀ a : Nat, a < s.heap.size → ¬ A a) : ∃ t : Nat, va_T .int t 24 (fun j => .int (kBodies j)) A s s.heap ∧ va_Z "FamineCode$Acts" "BODIES" "[I" (.ref t) A s s.heap := by
  have hq := flat_of_before _ hgv
  obtain ⟨t, h1, h2⟩ := va_Tof (tm := .static "FamineCode$Acts" "BODIES" "[I") (ty := .int) (N := 24) (f := fun j => .int (kBodies j)) (A := A) (by omega) (hq _ (by decide +kernel)) (va_eqt (z := 24) (hq (.eq (.length (.static "FamineCode$Acts" "BODIES" "[I")) (.int 24)) (by decide +kernel))) (fun j hj => by
    match j, hj with
    | 0, _ => exact va_eqt (z := 10) (hq (.eq (.elem (.static "FamineCode$Acts" "BODIES" "[I") (.int 0)) (.int 10)) (by decide +kernel))
    | 1, _ => exact va_eqt (z := 11) (hq (.eq (.elem (.static "FamineCode$Acts" "BODIES" "[I") (.int 1)) (.int 11)) (by decide +kernel))
    | 2, _ => exact va_eqt (z := 12) (hq (.eq (.elem (.static "FamineCode$Acts" "BODIES" "[I") (.int 2)) (.int 12)) (by decide +kernel))
    | 3, _ => exact va_eqt (z := 13) (hq (.eq (.elem (.static "FamineCode$Acts" "BODIES" "[I") (.int 3)) (.int 13)) (by decide +kernel))
    | 4, _ => exact va_eqt (z := 0) (hq (.eq (.elem (.static "FamineCode$Acts" "BODIES" "[I") (.int 4)) (.int 0)) (by decide +kernel))
    | 5, _ => exact va_eqt (z := 20) (hq (.eq (.elem (.static "FamineCode$Acts" "BODIES" "[I") (.int 5)) (.int 20)) (by decide +kernel))
    | 6, _ => exact va_eqt (z := 0) (hq (.eq (.elem (.static "FamineCode$Acts" "BODIES" "[I") (.int 6)) (.int 0)) (by decide +kernel))
    | 7, _ => exact va_eqt (z := 21) (hq (.eq (.elem (.static "FamineCode$Acts" "BODIES" "[I") (.int 7)) (.int 21)) (by decide +kernel))
    | 8, _ => exact va_eqt (z := 30) (hq (.eq (.elem (.static "FamineCode$Acts" "BODIES" "[I") (.int 8)) (.int 30)) (by decide +kernel))
    | 9, _ => exact va_eqt (z := 31) (hq (.eq (.elem (.static "FamineCode$Acts" "BODIES" "[I") (.int 9)) (.int 31)) (by decide +kernel))
    | 10, _ => exact va_eqt (z := 0) (hq (.eq (.elem (.static "FamineCode$Acts" "BODIES" "[I") (.int 10)) (.int 0)) (by decide +kernel))
    | 11, _ => exact va_eqt (z := 0) (hq (.eq (.elem (.static "FamineCode$Acts" "BODIES" "[I") (.int 11)) (.int 0)) (by decide +kernel))
    | 12, _ => exact va_eqt (z := 0) (hq (.eq (.elem (.static "FamineCode$Acts" "BODIES" "[I") (.int 12)) (.int 0)) (by decide +kernel))
    | 13, _ => exact va_eqt (z := 0) (hq (.eq (.elem (.static "FamineCode$Acts" "BODIES" "[I") (.int 13)) (.int 0)) (by decide +kernel))
    | 14, _ => exact va_eqt (z := 40) (hq (.eq (.elem (.static "FamineCode$Acts" "BODIES" "[I") (.int 14)) (.int 40)) (by decide +kernel))
    | 15, _ => exact va_eqt (z := 0) (hq (.eq (.elem (.static "FamineCode$Acts" "BODIES" "[I") (.int 15)) (.int 0)) (by decide +kernel))
    | 16, _ => exact va_eqt (z := 51) (hq (.eq (.elem (.static "FamineCode$Acts" "BODIES" "[I") (.int 16)) (.int 51)) (by decide +kernel))
    | 17, _ => exact va_eqt (z := 0) (hq (.eq (.elem (.static "FamineCode$Acts" "BODIES" "[I") (.int 17)) (.int 0)) (by decide +kernel))
    | 18, _ => exact va_eqt (z := 50) (hq (.eq (.elem (.static "FamineCode$Acts" "BODIES" "[I") (.int 18)) (.int 50)) (by decide +kernel))
    | 19, _ => exact va_eqt (z := 0) (hq (.eq (.elem (.static "FamineCode$Acts" "BODIES" "[I") (.int 19)) (.int 0)) (by decide +kernel))
    | 20, _ => exact va_eqt (z := 0) (hq (.eq (.elem (.static "FamineCode$Acts" "BODIES" "[I") (.int 20)) (.int 0)) (by decide +kernel))
    | 21, _ => exact va_eqt (z := 0) (hq (.eq (.elem (.static "FamineCode$Acts" "BODIES" "[I") (.int 21)) (.int 0)) (by decide +kernel))
    | 22, _ => exact va_eqt (z := 61) (hq (.eq (.elem (.static "FamineCode$Acts" "BODIES" "[I") (.int 22)) (.int 61)) (by decide +kernel))
    | 23, _ => exact va_eqt (z := 60) (hq (.eq (.elem (.static "FamineCode$Acts" "BODIES" "[I") (.int 23)) (.int 60)) (by decide +kernel))
    | _ + 24, h => exact absurd h (by omega)) hA
  exact ⟨t, h2, va_Zref (hg _ (List.mem_of_getElem? (i := 743) (by decide +kernel))) (hg _ (List.mem_of_getElem? (i := 70) (by decide +kernel))) h1 hA⟩
theorem tab_2 {s : State} {args : Array Value} {A : Nat → Prop} (hg : ∀ w ∈ lw_tbl, w.before args s = true) (hgv : (Jvm.Cond.and given_1 narrow_1).before args s = true) (hA : ∀ a : Nat, a < s.heap.size → ¬ A a) : ∃ t : Nat, va_T .long t 12 (fun j => .long (kPows j)) A s s.heap ∧ va_Z "FamineCode$Carts" "POWERS_OF_3" "[J" (.ref t) A s s.heap := by
  have hq := flat_of_before _ hgv
  obtain ⟨t, h1, h2⟩ := va_Tof (tm := .static "FamineCode$Carts" "POWERS_OF_3" "[J") (ty := .long) (N := 12) (f := fun j => .long (kPows j)) (A := A) (by omega) (hq _ (by decide +kernel)) (va_eqt (z := 12) (hq (.eq (.length (.static "FamineCode$Carts" "POWERS_OF_3" "[J")) (.int 12)) (by decide +kernel))) (fun j hj => by
    match j, hj with
    | 0, _ => exact va_eqtl (z := 177147) (hq (.eq (.elem (.static "FamineCode$Carts" "POWERS_OF_3" "[J") (.int 0)) (.long 177147)) (by decide +kernel))
    | 1, _ => exact va_eqtl (z := 59049) (hq (.eq (.elem (.static "FamineCode$Carts" "POWERS_OF_3" "[J") (.int 1)) (.long 59049)) (by decide +kernel))
    | 2, _ => exact va_eqtl (z := 19683) (hq (.eq (.elem (.static "FamineCode$Carts" "POWERS_OF_3" "[J") (.int 2)) (.long 19683)) (by decide +kernel))
    | 3, _ => exact va_eqtl (z := 6561) (hq (.eq (.elem (.static "FamineCode$Carts" "POWERS_OF_3" "[J") (.int 3)) (.long 6561)) (by decide +kernel))
    | 4, _ => exact va_eqtl (z := 2187) (hq (.eq (.elem (.static "FamineCode$Carts" "POWERS_OF_3" "[J") (.int 4)) (.long 2187)) (by decide +kernel))
    | 5, _ => exact va_eqtl (z := 729) (hq (.eq (.elem (.static "FamineCode$Carts" "POWERS_OF_3" "[J") (.int 5)) (.long 729)) (by decide +kernel))
    | 6, _ => exact va_eqtl (z := 243) (hq (.eq (.elem (.static "FamineCode$Carts" "POWERS_OF_3" "[J") (.int 6)) (.long 243)) (by decide +kernel))
    | 7, _ => exact va_eqtl (z := 81) (hq (.eq (.elem (.static "FamineCode$Carts" "POWERS_OF_3" "[J") (.int 7)) (.long 81)) (by decide +kernel))
    | 8, _ => exact va_eqtl (z := 27) (hq (.eq (.elem (.static "FamineCode$Carts" "POWERS_OF_3" "[J") (.int 8)) (.long 27)) (by decide +kernel))
    | 9, _ => exact va_eqtl (z := 9) (hq (.eq (.elem (.static "FamineCode$Carts" "POWERS_OF_3" "[J") (.int 9)) (.long 9)) (by decide +kernel))
    | 10, _ => exact va_eqtl (z := 3) (hq (.eq (.elem (.static "FamineCode$Carts" "POWERS_OF_3" "[J") (.int 10)) (.long 3)) (by decide +kernel))
    | 11, _ => exact va_eqtl (z := 1) (hq (.eq (.elem (.static "FamineCode$Carts" "POWERS_OF_3" "[J") (.int 11)) (.long 1)) (by decide +kernel))
    | _ + 12, h => exact absurd h (by omega)) hA
  exact ⟨t, h2, va_Zref (hg _ (List.mem_of_getElem? (i := 550) (by decide +kernel))) (hg _ (List.mem_of_getElem? (i := 69) (by decide +kernel))) h1 hA⟩
set_option maxHeartbeats 4000000 in
set_option maxRecDepth 100000 in
theorem start_of {p : Program} {e : Env} {s : State} {m : MethodId} {below : List Frame} {meth : Method} {c : Code} (l : Launch) {b L : Nat} {xs : Nat → Int32} (hE : Ev (L, xs) 60 107 8449 LW_law 0 [.ref 1003, U0, U0, U0] [] (ly_0, hh0) (fun r _ => r = some (.int 1))) (C0 : lw_At p s m meth c b L xs) : W p l e room_1 s m #[Value.ref b] below meth c s.heap [] 0 0 (lw_Z below #[Value.ref b] s) (entryFrame m ([Value.ref b] : List Value).toArray 4) := by
  obtain ⟨hx, hb, hr, hml, hown, hts, hX, hbl, hlocks, hgv⟩ := C0
  have hg : ∀ w ∈ gtbl, w.before #[Value.ref b] s = true := fun w hw => hts w (List.mem_filter.mp hw).1
  obtain ⟨c0, s0, k0⟩ := u_known (C := RX0) (T := TX0) (N := 6) (n := 6) hg inX0 (hg _ wd_271)
  obtain ⟨c1, s1, k1⟩ := u_known (C := RX1) (T := TX1) (N := 7) (n := 7) hg inX1 (hg _ wd_241)
  obtain ⟨c2, s2, k2⟩ := u_known (C := RX2) (T := TX2) (N := 2) (n := 2) hg inX2 (hg _ wd_148)
  obtain ⟨c3, s3, k3⟩ := u_known (C := RX3) (T := TX3) (N := 6) (n := 6) hg inX3 (hg _ wd_92)
  obtain ⟨c4, s4, k4⟩ := u_known (C := RX4) (T := TX4) (N := 3) (n := 3) hg inX4 (hg _ wd_298)
  obtain ⟨c5, s5, k5⟩ := u_known (C := RX5) (T := TX5) (N := 5) (n := 5) hg inX5 (hg _ wd_125)
  obtain ⟨c6, s6, k6⟩ := u_known (C := RX6) (T := TX6) (N := 7) (n := 7) hg inX6 (hg _ wd_86)
  obtain ⟨c7, s7, k7⟩ := u_known (C := RX7) (T := TX7) (N := 5) (n := 5) hg inX7 (hg _ wd_162)
  obtain ⟨c8, s8, k8⟩ := u_known (C := RX8) (T := TX8) (N := 4) (n := 4) hg inX8 (hg _ wd_190)
  obtain ⟨c9, s9, k9⟩ := u_known (C := RX9) (T := TX9) (N := 9) (n := 9) hg inX9 (hg _ wd_78)
  obtain ⟨c10, s10, k10⟩ := u_known (C := RX10) (T := TX10) (N := 63) (n := 63) hg inX10 (hg _ wd_844)
  obtain ⟨dC, dI, hKc⟩ : ∃ (dC : Nat → ClassId) (dI : Nat → Nat → Nat), ∀ (k : Nat) (q : vw_C), vwCl[k]? = some q → u_Kn s q.1 q.2.1 q.2.2 (dC k) (dI k) := by
    refine ⟨fun k => if k = 0 then c0 else if k = 1 then c1 else if k = 2 then c2 else if k = 3 then c3 else if k = 4 then c4 else if k = 5 then c5 else if k = 6 then c6 else if k = 7 then c7 else if k = 8 then c8 else if k = 9 then c9 else c10, fun k => if k = 0 then s0 else if k = 1 then s1 else if k = 2 then s2 else if k = 3 then s3 else if k = 4 then s4 else if k = 5 then s5 else if k = 6 then s6 else if k = 7 then s7 else if k = 8 then s8 else if k = 9 then s9 else s10, ?_⟩
    intro k q hq
    match k, hq with
    | 0, hq => cases hq; exact k0
    | 1, hq => cases hq; exact k1
    | 2, hq => cases hq; exact k2
    | 3, hq => cases hq; exact k3
    | 4, hq => cases hq; exact k4
    | 5, hq => cases hq; exact k5
    | 6, hq => cases hq; exact k6
    | 7, hq => cases hq; exact k7
    | 8, hq => cases hq; exact k8
    | 9, hq => cases hq; exact k9
    | 10, hq => cases hq; exact k10
    | k + 11, hq => simp [vwCl] at hq
  obtain ⟨a0, A0, R0⟩ := tys_of (Or.inl rfl) (hg _ wd_123)
  obtain ⟨a1, A1, R1⟩ := tys_of (Or.inr (Or.inl rfl)) (hg _ wd_269)
  obtain ⟨a2, A2, R2⟩ := tys_of (Or.inr (Or.inr rfl)) (hg _ wd_1039)
  have hA : ∀ a : Nat, a < s.heap.size → ¬ (fun q : Nat => s.heap.size ≤ q) a := fun a h => Nat.not_le.mpr h
  obtain ⟨t0, T0, Z0⟩ := tab_0 hts hgv hA
  obtain ⟨t1, T1, Z1⟩ := tab_1 hts hgv hA
  obtain ⟨t2, T2, Z2⟩ := tab_2 hts hgv hA
  let cA : Nat → ClassId := fun t => if t = 0 then a0 else if t = 1 then a1 else a2
  let ax : Nat → Nat := fun i => if i = 1000 then t0 else if i = 1001 then t1 else if i = 1002 then t2 else b
  have hK : va_K (dC, dI) vwCl (tys cA) s := by
    refine ⟨hKc, fun k q h => ?_⟩
    match k, h with
    | 0, h => cases h; exact ⟨A0, R0⟩
    | 1, h => cases h; exact ⟨A1, R1⟩
    | 2, h => cases h; exact ⟨A2, R2⟩
    | k + 3, h => simp [tys] at h
  have hl := lr_entry ax [.ref 1003] (n := 4) (Nat.le_of_ble_eq_true rfl)
  rw [lg_entry_eq]
  refine hE p l e room_1 s m #[Value.ref b] below meth c (fun q => s.heap.size ≤ q) ax cA (dC, dI) ⟨hx, hb, hml, hr, hlocks, fun h => absurd h (by decide +kernel), hown, hg, fun w hw => va_Nw.of (nt_tab (List.mem_filter.mp hw).2) (hts w (List.mem_append_right _ (List.mem_filter.mp hw).1)), Nat.le_of_ble_eq_true rfl, Nat.le_of_ble_eq_true rfl, hK, fun q h => h, ⟨T0, T1, T2, script_T (hA b hbl) hX, Z0, Z1, Z2⟩⟩ s.heap [] 0 0 _ ax _ ⟨by decide, rfl, fun _ _ => rfl, fun k q h => by simp [wl, ly_0] at h, ⟨fun i j p q h => by simp [wl, ly_0] at h, fun k q h => by simp [wl, ly_0] at h⟩, va_S.rf⟩ (Nat.le_of_ble_eq_true rfl) (Nat.le_of_ble_eq_true rfl) hl ?_
  intro r σ' H' locs' cells' slots' ad' ls' pc' hQ hR' hc' hs' had h0 hle hret
  subst hQ
  refine va_forget (fun q hq => hR'.2.2.2.2.2.2.2 q hq) ?_
  refine W.widen (k := 600000) (n := 7302250) (by omega) (by omega) ?_
  exact lw_ret hx hb hr hlocks hret.2
