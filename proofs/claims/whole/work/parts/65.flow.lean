/-! loads: tons x on ways, given z by districts -/
def smI (F : Nat → Int) : Nat → Int
  | 0 => 0
  | n + 1 => smI F n + F n
theorem smI_cg {F G : Nat → Int} : ∀ n, (∀ i, i < n → F i = G i) → smI F n = smI G n
  | 0, _ => rfl
  | n + 1, e => by unfold smI; rw [e n (by omega), smI_cg n (fun i hi => e i (by omega))]
theorem smI_up {F G : Nat → Int} {j : Nat} (e : ∀ i, i ≠ j → G i = F i) : ∀ n, j < n → smI G n = smI F n + (G j - F j)
  | 0, h => absurd h (by omega)
  | n + 1, h => by
    unfold smI
    by_cases z : j = n
    · subst z
      rw [smI_cg (F := G) (G := F) j (fun i hi => e i (by omega))]; omega
    · rw [smI_up e n (by omega), e n (by omega)]; omega
theorem smI_0 {F : Nat → Int} : ∀ n, (∀ i, i < n → F i = 0) → smI F n = 0
  | 0, _ => rfl
  | n + 1, e => by unfold smI; rw [e n (by omega), smI_0 n (fun i hi => e i (by omega))]; rfl
theorem smI_le {F G : Nat → Int} : ∀ n, (∀ i, i < n → F i ≤ G i) → smI F n ≤ smI G n
  | 0, _ => Int.le_refl _
  | n + 1, e => by
    have h1 := e n (by omega)
    have h2 := smI_le n (fun i hi => e i (by omega))
    unfold smI
    omega
theorem smI_add {F G : Nat → Int} : ∀ n, smI (fun i => F i + G i) n = smI F n + smI G n
  | 0 => rfl
  | n + 1 => by unfold smI; rw [smI_add n]; omega
theorem smI_sub {F G : Nat → Int} : ∀ n, smI (fun i => F i - G i) n = smI F n - smI G n
  | 0 => rfl
  | n + 1 => by unfold smI; rw [smI_sub n]; omega
section FL
variable (f t : Nat → Nat) (k cp sp : Nat → Int) (W D g : Nat)
def eU (e : Nat) : Nat := if e < 12 then f e else if e < 24 then t (e - 12) else 6
def eV (e : Nat) : Nat := if e < 12 then t e else if e < 24 then f (e - 12) else e - 24
def eC (e : Nat) : Int := if e < 12 then k e else if e < 24 then - k (e - 12) else 0
/-- room of an edge -/
def rs (x z : Nat → Int) (e : Nat) : Int := if e < 12 then (if e < W then cp e - x e else 0) else if e < 24 then (if e - 12 < W then x (e - 12) else 0) else (if e - 24 < D then sp (e - 24) - z (e - 24) else 0)
/-- what comes to d more than goes from it -/
def nt (x z : Nat → Int) (d : Nat) : Int := z d + smI (fun w => (if t w = d then x w else 0) - (if f w = d then x w else 0)) W
def kc (x : Nat → Int) : Int := smI (fun w => k w * x w) W
def Feas (x z : Nat → Int) (n : Int) : Prop := (∀ w, w < W → 0 ≤ x w ∧ x w ≤ cp w) ∧ (∀ d, d < D → 0 ≤ z d ∧ z d ≤ sp d) ∧ ∀ d, d < D → nt f t W x z d = if d = g then n else 0
def Vali (pt : Nat → Int) (x z : Nat → Int) : Prop := pt 6 = 0 ∧ (∀ e, e < 30 → 0 < rs cp sp W D x z e → pt (eV f t e) ≤ pt (eU f t e) + eC k e) ∧ ∀ d, d < D → 0 < z d → 0 ≤ pt d
/-- the ways: their ends -/
def Ends : Prop := W ≤ 12 ∧ D ≤ 6 ∧ g < D ∧ (∀ w, w < W → f w < D ∧ t w < D ∧ f w ≠ t w)
variable {f t k cp sp W D g}
theorem eU_f {w : Nat} (h : w < 12) : eU f t w = f w := by unfold eU; rw [if_pos h]
theorem eU_b {w : Nat} (h : w < 12) : eU f t (12 + w) = t w := by unfold eU; rw [if_neg (by omega), if_pos (by omega), Nat.add_sub_cancel_left]
theorem eU_g {d : Nat} : eU f t (24 + d) = 6 := by unfold eU; rw [if_neg (by omega), if_neg (by omega)]
theorem eV_f {w : Nat} (h : w < 12) : eV f t w = t w := by unfold eV; rw [if_pos h]
theorem eV_b {w : Nat} (h : w < 12) : eV f t (12 + w) = f w := by unfold eV; rw [if_neg (by omega), if_pos (by omega), Nat.add_sub_cancel_left]
theorem eV_g {d : Nat} : eV f t (24 + d) = d := by unfold eV; rw [if_neg (by omega), if_neg (by omega), Nat.add_sub_cancel_left]
theorem eC_f {w : Nat} (h : w < 12) : eC k w = k w := by unfold eC; rw [if_pos h]
theorem eC_b {w : Nat} (h : w < 12) : eC k (12 + w) = - k w := by unfold eC; rw [if_neg (by omega), if_pos (by omega), Nat.add_sub_cancel_left]
theorem eC_g {d : Nat} : eC k (24 + d) = 0 := by unfold eC; rw [if_neg (by omega), if_neg (by omega)]
theorem rs_f {x z : Nat → Int} {w : Nat} (h : w < W) (h2 : W ≤ 12) : rs cp sp W D x z w = cp w - x w := by unfold rs; rw [if_pos (by omega), if_pos h]
theorem rs_b {x z : Nat → Int} {w : Nat} (h : w < W) (h2 : W ≤ 12) : rs cp sp W D x z (12 + w) = x w := by unfold rs; rw [if_neg (by omega), if_pos (by omega), Nat.add_sub_cancel_left, if_pos h]
theorem rs_g {x z : Nat → Int} {d : Nat} (h : d < D) : rs cp sp W D x z (24 + d) = sp d - z d := by unfold rs; rw [if_neg (by omega), if_neg (by omega), Nat.add_sub_cancel_left, if_pos h]
/-- an edge with room is one of the three kinds -/
theorem rs_cs {x z : Nat → Int} {e : Nat} (h : 0 < rs cp sp W D x z e) : (∃ w, w < W ∧ w < 12 ∧ e = w) ∨ (∃ w, w < W ∧ w < 12 ∧ e = 12 + w) ∨ ∃ d, d < D ∧ e = 24 + d := by
  unfold rs at h
  by_cases h1 : e < 12
  · rw [if_pos h1] at h
    by_cases h2 : e < W
    · exact Or.inl ⟨e, h2, h1, rfl⟩
    · rw [if_neg h2] at h; omega
  · rw [if_neg h1] at h
    by_cases h2 : e < 24
    · rw [if_pos h2] at h
      by_cases h3 : e - 12 < W
      · exact Or.inr (Or.inl ⟨e - 12, h3, by omega, by omega⟩)
      · rw [if_neg h3] at h; omega
    · rw [if_neg h2] at h
      by_cases h3 : e - 24 < D
      · exact Or.inr (Or.inr ⟨e - 24, h3, by omega⟩)
      · rw [if_neg h3] at h; omega
theorem sm_one {n j : Nat} (hj : j < n) (v : Int) : smI (fun d => if j = d then v else 0) n = v := by
  have := smI_up (F := fun _ => 0) (G := fun d => if j = d then v else 0) (j := j) (fun i hi => if_neg (fun z => hi z.symm)) n hj
  rw [this, smI_0 n (fun _ _ => rfl)]
  simp
/-- sums over ways by their ends -/
theorem sm_ends {p : Nat → Int} {y : Nat → Int} {h : Nat → Nat} {D : Nat} : ∀ (W : Nat), (∀ w, w < W → h w < D) → smI (fun w => p (h w) * y w) W = smI (fun d => p d * smI (fun w => if h w = d then y w else 0) W) D
  | 0, _ => by
    show 0 = smI (fun d => p d * 0) D
    rw [smI_0 D (fun i _ => Int.mul_zero _)]
  | n + 1, hh => by
    show smI (fun w => p (h w) * y w) n + p (h n) * y n = smI (fun d => p d * (smI (fun w => if h w = d then y w else 0) n + if h n = d then y n else 0)) D
    rw [sm_ends n (fun w hw => hh w (by omega))]
    have e : ∀ d, p d * (smI (fun w => if h w = d then y w else 0) n + if h n = d then y n else 0) = p d * smI (fun w => if h w = d then y w else 0) n + (if h n = d then p (h n) * y n else 0) := fun d => by
      rw [Int.mul_add]
      by_cases z : h n = d
      · rw [if_pos z, if_pos z, z]
      · rw [if_neg z, if_neg z, Int.mul_zero]
    rw [smI_cg (F := fun d => p d * (smI (fun w => if h w = d then y w else 0) n + if h n = d then y n else 0)) D (fun i _ => e i), smI_add, sm_one (hh n (by omega))]
/-- weights over districts of what comes and goes -/
theorem nt_sum (E : Ends f t W D g) {p x z : Nat → Int} : smI (fun d => p d * nt f t W x z d) D = smI (fun d => p d * z d) D + smI (fun w => (p (t w) - p (f w)) * x w) W := by
  have e1 : smI (fun d => p d * nt f t W x z d) D = smI (fun d => p d * z d + (p d * smI (fun w => if t w = d then x w else 0) W - p d * smI (fun w => if f w = d then x w else 0) W)) D := smI_cg D (fun d _ => by
    unfold nt
    rw [smI_sub, Int.mul_add, Int.mul_sub])
  rw [e1, smI_add, smI_sub, ← sm_ends W (fun w hw => (E.2.2.2 w hw).2.1), ← sm_ends W (fun w hw => (E.2.2.2 w hw).1), ← smI_sub]
  congr 1
  exact smI_cg W (fun w _ => (Int.sub_mul _ _ _).symm)
theorem mul_sg {a b : Int} (h1 : 0 < b → 0 ≤ a) (h2 : b < 0 → a ≤ 0) : 0 ≤ a * b := by
  rcases Int.lt_trichotomy b 0 with h | h | h
  · exact Int.mul_nonneg_of_nonpos_of_nonpos (h2 h) (by omega)
  · rw [h, Int.mul_zero]; exact Int.le_refl _
  · exact Int.mul_nonneg (h1 h) (by omega)
/-- a load that prices stand for costs least -/
theorem weak_dual (E : Ends f t W D g) {x z x' z' pt : Nat → Int} {n : Int} (F : Feas f t cp sp W D g x z n) (F' : Feas f t cp sp W D g x' z' n) (V : Vali f t k cp sp W D pt x z) : kc k W x ≤ kc k W x' := by
  obtain ⟨f1, f2, f3⟩ := F
  obtain ⟨g1, g2, g3⟩ := F'
  obtain ⟨v1, v2, v3⟩ := V
  obtain ⟨W12, D6, gD, en⟩ := E
  have s1 : 0 ≤ smI (fun w => (k w + pt (f w) - pt (t w)) * (x' w - x w)) W := by
    have := smI_le (F := fun _ => 0) (G := fun w => (k w + pt (f w) - pt (t w)) * (x' w - x w)) W (fun w hw => ?_)
    · rw [smI_0 W (fun _ _ => rfl)] at this; exact this
    · have a1 := f1 w hw
      have a2 := g1 w hw
      refine mul_sg (fun h => ?_) (fun h => ?_)
      · have := v2 w (by omega) (by rw [rs_f hw W12]; omega)
        rw [eV_f (by omega), eU_f (by omega), eC_f (by omega)] at this
        omega
      · have := v2 (12 + w) (by omega) (by rw [rs_b hw W12]; omega)
        rw [eV_b (by omega), eU_b (by omega), eC_b (by omega)] at this
        omega
  have s2 : smI (fun d => pt d * (z' d - z d)) D ≤ 0 := by
    have := smI_le (F := fun d => pt d * (z' d - z d)) (G := fun _ => 0) D (fun d hd => ?_)
    · rw [smI_0 (F := fun _ => 0) D (fun _ _ => rfl)] at this; exact this
    · have a1 := f2 d hd
      have a2 := g2 d hd
      have : 0 ≤ (- pt d) * (z' d - z d) := by
        refine mul_sg (fun h => ?_) (fun h => ?_)
        · have := v2 (24 + d) (by omega) (by rw [rs_g hd]; omega)
          rw [eV_g, eU_g, eC_g, v1] at this
          omega
        · have := v3 d hd (by omega)
          omega
      rw [Int.neg_mul] at this
      show pt d * (z' d - z d) ≤ 0
      omega
  have n1 := nt_sum (f := f) (t := t) (W := W) (D := D) (g := g) ⟨W12, D6, gD, en⟩ (p := pt) (x := x) (z := z)
  have n2 := nt_sum (f := f) (t := t) (W := W) (D := D) (g := g) ⟨W12, D6, gD, en⟩ (p := pt) (x := x') (z := z')
  have n3 : smI (fun d => pt d * nt f t W x z d) D = smI (fun d => pt d * nt f t W x' z' d) D := smI_cg D (fun d hd => by rw [f3 d hd, g3 d hd])
  have e1 : smI (fun w => (k w + pt (f w) - pt (t w)) * (x' w - x w)) W = (kc k W x' - kc k W x) - (smI (fun w => (pt (t w) - pt (f w)) * x' w) W - smI (fun w => (pt (t w) - pt (f w)) * x w) W) := by
    unfold kc
    rw [← smI_sub, ← smI_sub, ← smI_sub]
    refine smI_cg W (fun w _ => ?_)
    simp only [Int.mul_sub, Int.sub_mul, Int.add_mul]
    omega
  have e2 : smI (fun d => pt d * (z' d - z d)) D = smI (fun d => pt d * z' d) D - smI (fun d => pt d * z d) D := by
    rw [← smI_sub]
    exact smI_cg D (fun d _ => Int.mul_sub _ _ _)
  omega
end FL
