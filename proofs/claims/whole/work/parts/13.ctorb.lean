section CT
variable {X : SX} {d mc ms mc1 ms1 : Nat} {y y' : MI} {pc ix : Nat} {L st : List Value} {lay lay' : List LC} {h h' : HH} {Q : Option Value → MSt → Prop}
theorem Ev.newK {ci N n : Nat} {Cn : String} {T : u_T} {ty0 : Nat → FieldType} {ks : List (Option (Option Nat))} (hd : decode y.2.1 pc = .ok (.new ix, 3)) (hin : ∀ w ∈ u_ws Cn T N, w ∈ gtbl) (hty : ∀ k, k < N → parseFieldDescriptor (T k).2.2.1 = some (ty0 k)) (hcl : vwCl[ci]? = some (Cn, T, N))
    (hw1 : Cond.classLink y.1.cls ix Cn ∈ gtbl) (hw2 : Cond.instantiable Cn N ∈ gtbl) (hw3 : Cond.initialized Cn ∈ gtbl) (hks : ks.length = N) (hkd : ∀ k, k < N → (ks[k]? = some none ∧ defaultValue (ty0 k) = .int 0) ∨ (ks[k]? = some (some none) ∧ defaultValue (ty0 k) = .null)) (hl : lay.length = n) (hlen : n < 900)
    (he : lay ++ [.inl (ci, ks)] = lay') (hz : zR h n = h) (hok : (L ++ st).all (okv n) = true) (kk : Ev X d mc ms y (pc + 3) L (.ref n :: st) (lay', h) Q) : Ev X d (mc + 1) (ms + N) y pc L st (lay, h) Q := by
  subst hl; subst he
  exact Ev.new_ hd hin hty hcl hw1 hw2 hw3 hks hkd hlen hok (by simpa only [hz] using kk)
theorem Ev.newaK {at_ : ArrayType} {ty : FieldType} {t m n : Nat} {v : Int32} (hd : decode y.2.1 pc = .ok (.newarray at_, 2)) (ht : t < 3) (hty : newarray.typeOf at_ = ty) (htt : ∀ cA, (tys cA)[t]? = some (cA t, ty)) (hw : Cond.arrayClass (newarray.typeOf at_) ∈ gtbl) (hn : ¬ v < 0) (hN : v.toNatClampNeg = m) (hN2 : m * componentBytes ty ≤ 536870912) (hl : lay.length = n) (hlen : n < 900)
    (he : lay ++ [.inr (t, m)] = lay') (hz : zR h n = h) (hok : (L ++ st).all (okv n) = true) (kk : Ev X d mc ms y (pc + 2) L (.ref n :: st) (lay', h) Q) : Ev X d (mc + 1) (ms + m) y pc L (.int v :: st) (lay, h) Q := by
  subst hl; subst he
  exact Ev.newa hd ht hty htt hw hn hN hN2 hlen hok (by simpa only [hz] using kk)
theorem Ev.putRK {id ci k N j : Nat} {Cn : String} {T : u_T} {ty0 : Nat → FieldType} {ty : FieldType} {ks : List (Option (Option Nat))} (hd : decode y.2.1 pc = .ok (.putfield ix, 3)) (hin : ∀ w ∈ u_ws Cn T N, w ∈ gtbl) (hty : ∀ k, k < N → parseFieldDescriptor (T k).2.2.1 = some (ty0 k)) (hnm : ∀ a, a < N → ∀ b, b < N → a ≠ b → (T a).2.1 ≠ (T b).2.1)
    (hcl : vwCl[ci]? = some (Cn, T, N)) (hk : k < N) (hfin : (T k).2.2.2 = true) (hini : y.1.name = "<init>") (hdec : (T k).1 = y.1.cls) (hdt : parseFieldDescriptor (T k).2.2.1 = some ty) (hna : ∀ a, narrow ty (.ref a) = .ref a) (hft : ∀ a, fits ty (.ref a) = true)
    (hw : Cond.fieldLink y.1.cls ix (T k).1 (T k).2.1 (T k).2.2.1 ∈ gtbl) (hlay : lay[id]? = some (.inl (ci, ks))) (hf : k < ks.length) (hj : j < lay.length) (he : lay.set id (.inl (ci, ks.set k (some (some j)))) = lay') (kk : Ev X d mc ms y (pc + 3) L st (lay', h) Q) : Ev X d mc ms y pc L (.ref j :: .ref id :: st) (lay, h) Q := by
  subst he
  exact Ev.putR (σ := (lay, h)) hd hin hty hnm hcl hk hfin hini hdec hdt hna hft hw hlay hf hj kk
theorem Ev.callIK {id : Nat} {L0 : List Value} (hd : decode y.2.1 pc = .ok (.invokespecial ix, 3)) (hM : okM y') (hy : y'.1.name = "<init>") (hrt : y'.2.2.2 = none) (hw1 : Cond.methodLink y.1.cls ix y'.1 ∈ gtbl) (hw2 : Cond.instanceMethod y'.1 ∈ gtbl) (hds : (parseMethodDescriptor y'.1.desc).map (fun d => d.parameters.length) = some 0) (hml : 1 ≤ y'.2.2.1) (hcat : (st.map (fun v => v.category)).sum ≤ 8)
    (hok : (L ++ st).all (okv lay.length) = true) (he : entl [.ref id] y'.2.2.1 = L0) (kk : Ev X d mc1 ms1 y' 0 L0 [] (lay, h) (fun r σ' => r = none ∧ σ' = (lay', h')))
    (cont : Ev X (d + 1) mc ms y (pc + 3) L st (lay', h') Q) : Ev X (d + 1) (mc1 + mc) (ms1 + ms) y pc L (.ref id :: st) (lay, h) Q := by
  subst he
  refine Ev.callI (args := []) hd hM hy hrt hw1 hw2 rfl hds hml hcat (Or.inr hok) kk ?_
  rintro r σ' ⟨rfl, rfl⟩ -
  exact cont
theorem Ev.callINK {id : Nat} {host : String} {L0 : List Value} (hd : decode y.2.1 pc = .ok (.invokespecial ix, 3)) (hM : okM y') (hy : y'.1.name = "<init>") (hrt : y'.2.2.2 = none) (hw1 : Cond.methodLinkNest y.1.cls ix y'.1 host ∈ ntbl) (hw2 : Cond.instanceMethod y'.1 ∈ gtbl) (hds : (parseMethodDescriptor y'.1.desc).map (fun d => d.parameters.length) = some 0) (hml : 1 ≤ y'.2.2.1) (hcat : (st.map (fun v => v.category)).sum ≤ 8)
    (hok : (L ++ st).all (okv lay.length) = true) (he : entl [.ref id] y'.2.2.1 = L0) (kk : Ev X d mc1 ms1 y' 0 L0 [] (lay, h) (fun r σ' => r = none ∧ σ' = (lay', h')))
    (cont : Ev X (d + 1) mc ms y (pc + 3) L st (lay', h') Q) : Ev X (d + 1) (mc1 + mc) (ms1 + ms) y pc L (.ref id :: st) (lay, h) Q := by
  subst he
  refine Ev.callIN (args := []) hd hM hy hrt hw1 hw2 rfl hds hml hcat (Or.inr hok) kk ?_
  rintro r σ' ⟨rfl, rfl⟩ -
  exact cont
/-- the fill of Sheets' sorts: four numbers -/
theorem fill4 {a : Nat} {v : Int32} (ha : lay[a]? = some (.inr (0, 4))) (hq : Q none (lay, pI (pI (pI (pI h a 0 v) a 1 v) a 2 v) a 3 v)) : Ev X d 0 0 JA_fillI 0 [.ref a, .int v, U0, U0] [] (lay, h) Q := by
  have body : ∀ (i : Nat) (h : HH) (Q : Option Value → MSt → Prop), i < 4 → Ev X d 0 0 JA_fillI 5 [.ref a, .int v, .int (nI (i + 1)), .int 4] [] (lay, pI h a i v) Q → Ev X d 0 0 JA_fillI 5 [.ref a, .int v, .int (nI i), .int 4] [] (lay, h) Q := by
    intro i h Q hi k
    refine Ev.iload_n (k := 2) (by decide +kernel) rfl rfl ?_
    refine Ev.iload_n (k := 3) (by decide +kernel) rfl rfl ?_
    refine Ev.icmp_ge (off := 13) (tgt := 20) (by decide +kernel) (by decide) (fun c => absurd ((leN (show (4 : Int32) = nI 4 from rfl) rfl (by omega) (by omega)).mp c) (by omega)) (fun _ => ?_)
    refine Ev.aload_n (k := 0) (by decide +kernel) rfl rfl ?_
    refine Ev.iload_n (k := 2) (by decide +kernel) rfl rfl ?_
    refine Ev.iload_n (k := 1) (by decide +kernel) rfl rfl ?_
    refine Ev.iast (σ := (lay, h)) (by decide +kernel) ha (vp_in_nI hi (by omega)) ?_
    refine Ev.iinc (i := 2) (n := 1) (by decide +kernel) rfl rfl (by decide) rfl ?_
    refine Ev.goto (off := -12) (tgt := 5) (by decide +kernel) (by decide) ?_
    rw [nI_clamp (show i < 2 ^ 31 by omega)]
    rw [show nI i + Int32.ofInt 1 = nI (i + 1) from nI_1 i]
    exact k
  refine Ev.iconst (n := 0) (v := 0) (by decide +kernel) (by decide) ?_
  refine Ev.istore_n (k := 2) (by decide +kernel) rfl (by decide) rfl ?_
  refine Ev.aload_n (k := 0) (by decide +kernel) rfl rfl ?_
  refine Ev.alen (σ := (lay, h)) (v := 4) (by decide +kernel) ha (by decide) (by decide) ?_
  refine Ev.istore_n (k := 3) (by decide +kernel) rfl (by decide) rfl ?_
  refine body 0 _ _ (by omega) (body 1 _ _ (by omega) (body 2 _ _ (by omega) (body 3 _ _ (by omega) ?_)))
  refine Ev.iload_n (k := 2) (by decide +kernel) rfl rfl ?_
  refine Ev.iload_n (k := 3) (by decide +kernel) rfl rfl ?_
  refine Ev.icmp_ge (off := 13) (tgt := 20) (by decide +kernel) (by decide) (fun _ => ?_) (fun c => absurd (Int32.le_refl _) c)
  exact Ev.return_ (by decide +kernel) rfl hq
end CT
def hh0 : HH := (fun _ _ => 0, fun _ _ => 0)
theorem zR_0 (n : Nat) : zR hh0 n = hh0 := by
  unfold zR hh0
  refine Prod.ext ?_ ?_ <;> · funext a b; simp
theorem zR_pI {h : HH} {i k n : Nat} {v : Int32} (hn : ¬ i = n) (e : zR h n = h) : zR (pI h i k v) n = pI h i k v := by
  have e1 : ∀ a b, (zR h n).1 a b = h.1 a b := fun a b => by rw [e]
  have e2 : (zR h n).2 = h.2 := by rw [e]
  refine Prod.ext ?_ ?_
  · funext a b
    have := e1 a b
    simp only [zR] at this
    simp only [zR, pI]
    by_cases ha : a = n
    · have hi : ¬ a = i := fun z => hn (z.symm.trans ha)
      rw [if_pos ha] at this
      simp [ha, this]
      intro z
      exact absurd z.symm hn
    · simp [ha]
  · exact e2
