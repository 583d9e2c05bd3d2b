/-! the class's search -/
def FAR : Int64 := 1152921504606846976
theorem FAR_i : FAR.toInt = 1152921504606846976 := by decide
/-- the labels as the class keeps them, none greater than c -/
def DS (h : HH) (lab : Nat → Option Int) (pd : Nat → Nat) (c : Int) : Prop :=
  (∀ v, v < 7 → (lab v = none ∧ h.2 49 v = FAR) ∨ ∃ a, lab v = some a ∧ (h.2 49 v).toInt = a ∧ -c ≤ a ∧ a ≤ c) ∧ (∀ v, v < 6 → (∃ a, lab v = some a) → h.1 50 v = nI (pd v)) ∧ ∀ v, 7 ≤ v → lab v = none
/-- only the search's rows differ -/
def frS (h H : HH) : Prop := (∀ r, r ≠ 50 → H.1 r = h.1 r) ∧ ∀ r, r ≠ 49 → H.2 r = h.2 r
/-- the edges as the class has laid them -/
def EdR (h : HH) (eu ev : Nat → Nat) (ec : Nat → Int) : Prop := ∀ e, e < 30 → 0 < (h.1 47 e).toInt → h.1 45 e = nI (eu e) ∧ h.1 46 e = nI (ev e) ∧ (h.2 48 e).toInt = ec e ∧ -60000000 ≤ ec e ∧ ec e ≤ 60000000 ∧ eu e < 7 ∧ ev e < 6
section FP
variable {X : SX} {d g D : Nat} {h : HH} {Q : Int32 → HH → Prop} {eu ev : Nat → Nat} {ec pt : Nat → Int}
theorem pL1 (h : HH) (i k : Nat) (v : Int64) (a b : Nat) : (pL h i k v).2 a b = if a = i ∧ b = k then v else h.2 a b := rfl
theorem comeNearer_c {H : HH} {e : Nat} {lab : Nat → Option Int} {pd : Nat → Nat} {c : Int} (E0 : EdR h eu ev ec) (fr : frS h H) (S : DS H lab pd c) (he : e < 30) (re : 0 < (h.1 47 e).toInt) (hc : 0 ≤ c) (hc2 : c ≤ 100000000000)
    (t : ∀ a H', lab (eu e) = some a → ¬ nOk ev ec lab e a → frS h H' → DS H' (fun v => if v = ev e then some (a + ec e) else lab v) (fun v => if v = ev e then e else pd v) (c + 60000000) → Q 1 H') (f : (∀ a, lab (eu e) = some a → nOk ev ec lab e a) → Q 0 H) : E X d Ca_comeNearer 0 [.ref 43, .int (nI e), U0, U0] [] H Q := by
  obtain ⟨e1, e2, e3, e4, e5, e6, e7⟩ := E0 e he re
  have x45 : H.1 45 e = nI (eu e) := by rw [fr.1 45 (by omega)]; exact e1
  have x46 : H.1 46 e = nI (ev e) := by rw [fr.1 46 (by omega)]; exact e2
  have x48 : H.2 48 e = h.2 48 e := by rw [fr.2 48 (by omega)]
  obtain ⟨S1, S2, S3⟩ := S
  sorry
end FP
