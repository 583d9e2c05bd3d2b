/-! shortest paths: labels made nearer edge by edge (nodes 0 .. 5 and the source 6; 30 edges) -/
noncomputable def cn (P : Nat → Prop) : Nat → Nat
  | 0 => 0
  | n + 1 => cn P n + @ite Nat (P n) (Classical.propDecidable _) 1 0
theorem cn_le (P : Nat → Prop) : ∀ n, cn P n ≤ n
  | 0 => Nat.le_refl _
  | n + 1 => by
    have := cn_le P n
    unfold cn
    split <;> omega
theorem cn_mono {P Q : Nat → Prop} (h : ∀ x, P x → Q x) : ∀ n, cn P n ≤ cn Q n
  | 0 => Nat.le_refl _
  | n + 1 => by
    have := cn_mono h n
    unfold cn
    by_cases p : P n
    · rw [if_pos p, if_pos (h n p)]; omega
    · rw [if_neg p]; split <;> omega
theorem cn_lt {P Q : Nat → Prop} (h : ∀ x, P x → Q x) {a : Nat} (h1 : Q a) (h2 : ¬ P a) : ∀ n, a < n → cn P n < cn Q n
  | 0, ha => absurd ha (by omega)
  | n + 1, ha => by
    unfold cn
    by_cases z : a = n
    · subst z
      have := cn_mono h a
      rw [if_neg h2, if_pos h1]; omega
    · have := cn_lt h h1 h2 n (by omega)
      by_cases p : P n
      · rw [if_pos p, if_pos (h n p)]; omega
      · rw [if_neg p]; split <;> omega
theorem cn_miss {P : Nat → Prop} {a n : Nat} (ha : a < n) (h2 : ¬ P a) : cn P n + 1 ≤ n := by
  have := cn_lt (P := P) (Q := fun _ => True) (fun _ _ => trivial) trivial h2 n ha
  have := cn_le (fun _ => True) n
  omega
section BF
variable (eu ev : Nat → Nat) (ec : Nat → Int) (er : Nat → Prop) (pt : Nat → Int) (D : Nat)
def nOk (lab : Nat → Option Int) (e : Nat) (a : Int) : Prop := ∃ b, lab (ev e) = some b ∧ b ≤ a + ec e
/-- the edges: what holds of them throughout -/
def Net : Prop := pt 6 = 0 ∧ D ≤ 6 ∧ ∀ e, e < 30 → er e → ev e < D ∧ (eu e < D ∨ eu e = 6) ∧ eu e ≠ ev e ∧ pt (ev e) ≤ pt (eu e) + ec e
def BIg (k : Nat) (ch : Bool) (dn : Nat → Prop) (lab : Nat → Option Int) (pd : Nat → Nat) (ta cg : Nat → Nat) (T : Nat) : Prop :=
  lab 6 = some 0 ∧ cg 6 = 0 ∧ (∀ v, ta v < T) ∧ (∀ v a, lab v = some a → pt v ≤ a ∧ cg v ≤ k ∧ (ch = false → cg v + 1 ≤ k) ∧ (v < D ∨ v = 6)) ∧
  (∀ v a, v ≠ 6 → lab v = some a → pd v < 30 ∧ er (pd v) ∧ ev (pd v) = v ∧ ∃ b, lab (eu (pd v)) = some b ∧ b + ec (pd v) ≤ a ∧ cg v ≤ cg (eu (pd v)) + 1 ∧ (b - pt (eu (pd v)) < a - pt v ∨ b - pt (eu (pd v)) = a - pt v ∧ ta (eu (pd v)) < ta v)) ∧
  (∀ e a, e < 30 → er e → lab (eu e) = some a → (dn e → cg (eu e) + 1 ≤ k → nOk ev ec lab e a) ∧ (cg (eu e) + 2 ≤ k → nOk ev ec lab e a))
def BI (k : Nat) (ch : Bool) (dn : Nat → Prop) (lab : Nat → Option Int) (pd : Nat → Nat) : Prop := ∃ ta cg T, BIg eu ev ec er pt D k ch dn lab pd ta cg T
variable {eu ev ec er pt D}
theorem BI_skip {k e : Nat} {ch : Bool} {dn dn' : Nat → Prop} {lab : Nat → Option Int} {pd : Nat → Nat} (H : BI eu ev ec er pt D k ch dn lab pd) (hd : ∀ x, dn' x → dn x ∨ x = e) (ho : er e → ∀ a, lab (eu e) = some a → nOk ev ec lab e a) : BI eu ev ec er pt D k ch dn' lab pd := by
  obtain ⟨ta, cg, T, h1, h2, h3, h4, h5, h6⟩ := H
  refine ⟨ta, cg, T, h1, h2, h3, h4, h5, fun x a hx rx la => ⟨fun dx ck => ?_, (h6 x a hx rx la).2⟩⟩
  rcases hd x dx with z | rfl
  · exact (h6 x a hx rx la).1 z ck
  · exact ho rx a la
theorem BI_relax {k e : Nat} {ch ch' : Bool} {dn dn' : Nat → Prop} {lab lab' : Nat → Option Int} {pd pd' : Nat → Nat} (N : Net eu ev ec er pt D) (H : BI eu ev ec er pt D k ch dn lab pd) (he : e < 30) (re : er e) {a : Int} (la : lab (eu e) = some a) (no : ¬ nOk ev ec lab e a) (hk : 1 ≤ k) (hc : ch' = true) (hd : ∀ x, dn' x → dn x ∨ x = e)
    (l1 : lab' (ev e) = some (a + ec e)) (l2 : ∀ v, v ≠ ev e → lab' v = lab v) (p1 : pd' (ev e) = e) (p2 : ∀ v, v ≠ ev e → pd' v = pd v) : BI eu ev ec er pt D k ch' dn' lab' pd' := by
  obtain ⟨ta, cg, T, h1, h2, h3, h4, h5, h6⟩ := H
  obtain ⟨n0, n6, nn⟩ := N
  obtain ⟨q1, q2, q3, q4⟩ := nn e he re
  have cgu : k ≤ cg (eu e) + 1 := by
    have : ¬ cg (eu e) + 2 ≤ k := fun z => no ((h6 e a he re la).2 z)
    omega
  have old : ∀ b, lab (ev e) = some b → a + ec e < b := fun b hb => by
    have : ¬ b ≤ a + ec e := fun z => no ⟨b, hb, z⟩
    omega
  have au := h4 _ _ la
  refine ⟨fun v => if v = ev e then T else ta v, fun v => if v = ev e then k else cg v, T + 1, ?_, ?_, fun v => ?_, fun v x lx => ?_, fun v x hv lx => ?_, fun y x hy ry lx => ?_⟩
  · rw [l2 6 (by omega)]; exact h1
  · simp only; rw [if_neg (by omega)]; exact h2
  · simp only
    have := h3 v
    split <;> omega
  · simp only
    by_cases z : v = ev e
    · subst z
      rw [if_pos rfl]
      rw [l1] at lx
      cases lx
      exact ⟨by omega, Nat.le_refl _, (fun z => by rw [hc] at z; cases z), Or.inl q1⟩
    · rw [if_neg z]
      rw [l2 v z] at lx
      obtain ⟨b1, b2, b3, b4⟩ := h4 v x lx
      exact ⟨b1, b2, (fun z => by rw [hc] at z; cases z), b4⟩
  · simp only
    by_cases z : v = ev e
    · subst z
      rw [p1]
      rw [l1] at lx
      cases lx
      refine ⟨he, re, rfl, a, ?_, Int.le_refl _, ?_, ?_⟩
      · rw [l2 _ q3]; exact la
      · rw [if_pos rfl, if_neg q3]; omega
      · rw [if_neg q3, if_pos rfl]
        have := h3 (eu e)
        omega
    · rw [p2 v z]
      rw [l2 v z] at lx
      obtain ⟨c1, c2, c3, b, c4, c5, c6, c7⟩ := h5 v x hv lx
      by_cases y : eu (pd v) = ev e
      · have ob := old b (by rw [← y]; exact c4)
        refine ⟨c1, c2, c3, a + ec e, by rw [y]; exact l1, by omega, ?_, ?_⟩
        · rw [if_pos y, if_neg z]
          have := (h4 v x lx).2.1
          omega
        · rw [y] at c7 ⊢
          left
          rcases c7 with c7 | c7 <;> omega
      · refine ⟨c1, c2, c3, b, by rw [l2 _ y]; exact c4, c5, ?_, ?_⟩
        · rw [if_neg y, if_neg z]; exact c6
        · rw [if_neg y, if_neg z]; exact c7
  · simp only
    have up : ∀ w, nOk ev ec lab y w → nOk ev ec lab' y w := fun w ⟨b, o1, o2⟩ => by
      by_cases z : ev y = ev e
      · refine ⟨a + ec e, by rw [z]; exact l1, ?_⟩
        have := old b (by rw [← z]; exact o1)
        omega
      · exact ⟨b, by rw [l2 _ z]; exact o1, o2⟩
    by_cases z : eu y = ev e
    · rw [if_pos z]
      exact ⟨fun _ z => absurd z (by omega), fun z => absurd z (by omega)⟩
    · rw [if_neg z]
      rw [l2 _ z] at lx
      obtain ⟨g1, g2⟩ := h6 y x hy ry lx
      refine ⟨fun dy ck => ?_, fun ck => up _ (g2 ck)⟩
      rcases hd y dy with w | rfl
      · exact up _ (g1 w ck)
      · rw [la] at lx
        cases lx
        exact ⟨a + ec y, l1, Int.le_refl _⟩
theorem BI_next {k : Nat} {ch : Bool} {dn : Nat → Prop} {lab : Nat → Option Int} {pd : Nat → Nat} (H : BI eu ev ec er pt D k ch dn lab pd) (hd : ∀ e, e < 30 → er e → dn e) : BI eu ev ec er pt D (k + 1) false (fun _ => False) lab pd := by
  obtain ⟨ta, cg, T, h1, h2, h3, h4, h5, h6⟩ := H
  refine ⟨ta, cg, T, h1, h2, h3, fun v a la => ?_, h5, fun e a he re la => ⟨fun z => z.elim, fun z => (h6 e a he re la).1 (hd e he re) (by omega)⟩⟩
  obtain ⟨b1, b2, b3, b4⟩ := h4 v a la
  exact ⟨b1, by omega, fun _ => by omega, b4⟩
/-- what a search leaves: nothing can be made nearer, each label stands on the one before it, and back to the source it is no longer than rk -/
def Conv (eu ev : Nat → Nat) (ec : Nat → Int) (er : Nat → Prop) (pt : Nat → Int) (D : Nat) (lab : Nat → Option Int) (pd rk : Nat → Nat) : Prop :=
  lab 6 = some 0 ∧ (∀ e a, e < 30 → er e → lab (eu e) = some a → nOk ev ec lab e a) ∧ (∀ v a, lab v = some a → pt v ≤ a ∧ (v < D ∨ v = 6) ∧ rk v ≤ D) ∧
  ∀ v a, v ≠ 6 → lab v = some a → pd v < 30 ∧ er (pd v) ∧ ev (pd v) = v ∧ lab (eu (pd v)) = some (a - ec (pd v)) ∧ rk (eu (pd v)) < rk v
def kl (lab : Nat → Option Int) (pt : Nat → Int) (ta : Nat → Nat) (u v : Nat) : Prop := ∃ a b, lab u = some a ∧ lab v = some b ∧ (a - pt u < b - pt v ∨ a - pt u = b - pt v ∧ ta u < ta v)
theorem kl_ir {lab : Nat → Option Int} {pt : Nat → Int} {ta : Nat → Nat} {u : Nat} : ¬ kl lab pt ta u u := by
  rintro ⟨a, b, h1, h2, h3⟩
  rw [h1] at h2
  cases h2
  omega
theorem kl_tr {lab : Nat → Option Int} {pt : Nat → Int} {ta : Nat → Nat} {u v w : Nat} (h1 : kl lab pt ta u v) (h2 : kl lab pt ta v w) : kl lab pt ta u w := by
  obtain ⟨a, b, a1, a2, a3⟩ := h1
  obtain ⟨c, d, b1, b2, b3⟩ := h2
  rw [a2] at b1
  cases b1
  exact ⟨a, d, a1, b2, by omega⟩
noncomputable def rkf (lab : Nat → Option Int) (pt : Nat → Int) (ta : Nat → Nat) (D v : Nat) : Nat := if v = 6 then 0 else 1 + cn (fun u => kl lab pt ta u v) D
theorem BI_conv {k : Nat} {ch : Bool} {dn : Nat → Prop} {lab : Nat → Option Int} {pd : Nat → Nat} (N : Net eu ev ec er pt D) (H : BI eu ev ec er pt D k ch dn lab pd) (hd : ∀ e, e < 30 → er e → dn e) (hk : ch = false ∨ D + 1 ≤ k) : ∃ rk, Conv eu ev ec er pt D lab pd rk := by
  obtain ⟨ta, cg, T, h1, h2, h3, h4, h5, h6⟩ := H
  obtain ⟨n0, n6, nn⟩ := N
  have rb : ∀ v a, lab v = some a → rkf lab pt ta D v ≤ D := fun v a la => by
    unfold rkf
    split
    · omega
    · have vD : v < D := by have := (h4 v a la).2.2.2; omega
      have := cn_miss (P := fun u => kl lab pt ta u v) vD kl_ir
      omega
  have rl : ∀ v a, v ≠ 6 → lab v = some a → rkf lab pt ta D (eu (pd v)) < rkf lab pt ta D v := fun v a hv la => by
    obtain ⟨c1, c2, c3, b, c4, c5, c6, c7⟩ := h5 v a hv la
    unfold rkf
    rw [if_neg hv]
    split
    · omega
    · rename_i hu
      have uD : eu (pd v) < D := by have := (nn _ c1 c2).2.1; omega
      have kuv : kl lab pt ta (eu (pd v)) v := ⟨b, a, c4, la, c7⟩
      have := cn_lt (P := fun u => kl lab pt ta u (eu (pd v))) (Q := fun u => kl lab pt ta u v) (fun x hx => kl_tr hx kuv) kuv kl_ir D uD
      omega
  have cr : ∀ r v a, rkf lab pt ta D v ≤ r → lab v = some a → cg v ≤ rkf lab pt ta D v := by
    intro r
    induction r with
    | zero =>
      intro v a hr la
      by_cases z : v = 6
      · subst z; omega
      · unfold rkf at hr; rw [if_neg z] at hr; omega
    | succ r ih =>
      intro v a hr la
      by_cases z : v = 6
      · subst z; omega
      · obtain ⟨c1, c2, c3, b, c4, c5, c6, c7⟩ := h5 v a z la
        have := rl v a z la
        have := ih (eu (pd v)) b (by omega) c4
        omega
  have all : ∀ e a, e < 30 → er e → lab (eu e) = some a → nOk ev ec lab e a := fun e a he re la => by
    refine (h6 e a he re la).1 (hd e he re) ?_
    rcases hk with z | z
    · exact (h4 _ a la).2.2.1 z
    · have := cr D (eu e) a (rb _ a la) la
      have := rb _ a la
      omega
  refine ⟨rkf lab pt ta D, h1, all, fun v a la => ⟨(h4 v a la).1, (h4 v a la).2.2.2, rb v a la⟩, fun v a hv la => ?_⟩
  obtain ⟨c1, c2, c3, b, c4, c5, c6, c7⟩ := h5 v a hv la
  obtain ⟨b', o1, o2⟩ := all (pd v) b c1 c2 c4
  rw [c3, la] at o1
  cases o1
  exact ⟨c1, c2, c3, by rw [c4]; congr 1; omega, rl v a hv la⟩
end BF
