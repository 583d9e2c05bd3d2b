/-! a simple circle within the difference of two loads -/
section CY
variable (f t : Nat → Nat) (W D : Nat)
def cT (e : Nat) : Nat := if e < 12 then f e else if e < 24 then t (e - 12) else if e < 30 then 6 else e - 30
def cH (e : Nat) : Nat := if e < 12 then t e else if e < 24 then f (e - 12) else if e < 30 then e - 24 else 6
def cA (dx dz : Nat → Int) (e : Nat) : Prop := (∃ w, w < W ∧ e = w ∧ 0 < dx w) ∨ (∃ w, w < W ∧ e = 12 + w ∧ dx w < 0) ∨ (∃ d, d < D ∧ e = 24 + d ∧ 0 < dz d) ∨ ∃ d, d < D ∧ e = 30 + d ∧ dz d < 0
end CY
section CZ
variable {f t : Nat → Nat} {W D g : Nat} {dx dz : Nat → Int}
theorem cT_f {w : Nat} (h : w < 12) : cT f t w = f w := if_pos h
theorem cH_f {w : Nat} (h : w < 12) : cH f t w = t w := if_pos h
theorem cT_b {w : Nat} (h : w < 12) : cT f t (12 + w) = t w := by unfold cT; rw [if_neg (by omega), if_pos (by omega), Nat.add_sub_cancel_left]
theorem cH_b {w : Nat} (h : w < 12) : cH f t (12 + w) = f w := by unfold cH; rw [if_neg (by omega), if_pos (by omega), Nat.add_sub_cancel_left]
theorem cT_g {d : Nat} (h : d < 6) : cT f t (24 + d) = 6 := by unfold cT; rw [if_neg (by omega), if_neg (by omega), if_pos (by omega)]
theorem cH_g {d : Nat} (h : d < 6) : cH f t (24 + d) = d := by unfold cH; rw [if_neg (by omega), if_neg (by omega), if_pos (by omega), Nat.add_sub_cancel_left]
theorem cT_h {d : Nat} : cT f t (30 + d) = d := by unfold cT; rw [if_neg (by omega), if_neg (by omega), if_neg (by omega), Nat.add_sub_cancel_left]
theorem cH_h {d : Nat} : cH f t (30 + d) = 6 := by unfold cH; rw [if_neg (by omega), if_neg (by omega), if_neg (by omega)]
theorem sm_nn {F : Nat → Int} : ∀ n, (∀ i, i < n → 0 ≤ F i) → 0 ≤ smI F n ∧ ∀ j, j < n → F j ≤ smI F n := by
  intro n
  induction n with
  | zero => intro h; exact ⟨Int.le_refl _, fun j hj => absurd hj (by omega)⟩
  | succ n ih =>
    intro h
    obtain ⟨a, b⟩ := ih (fun i hi => h i (by omega))
    have l := h n (by omega)
    refine ⟨by show 0 ≤ smI F n + F n; omega, fun j hj => ?_⟩
    show F j ≤ smI F n + F n
    by_cases z : j = n
    · subst z; omega
    · have := b j (by omega); omega
/-- where a circle comes in it goes out -/
theorem cy_out (E : Ends f t W D g) (b : ∀ d, d < D → nt f t W dx dz d = 0) (s : smI dz D = 0) {e : Nat} (a : cA W D dx dz e) : ∃ e', cA W D dx dz e' ∧ cT f t e' = cH f t e := by
  obtain ⟨W12, D6, gD, en⟩ := E
  refine Classical.byContradiction fun no => ?_
  have no' : ∀ e', cA W D dx dz e' → cT f t e' ≠ cH f t e := fun e' h1 h2 => no ⟨e', h1, h2⟩
  by_cases h6 : cH f t e = 6
  · have zl : ∀ d, d < D → dz d ≤ 0 := fun d hd => by
      by_cases y : 0 < dz d
      · exact absurd (by rw [cT_g (by omega), h6]) (no' (24 + d) (Or.inr (Or.inr (Or.inl ⟨d, hd, rfl, y⟩))))
      · omega
    have nn := sm_nn (F := fun d => 0 - dz d) D (fun d hd => by have := zl d hd; omega)
    have ss : smI (fun d => (0 : Int) - dz d) D = 0 - smI dz D := by
      have := smI_sub (F := fun _ => (0 : Int)) (G := dz) D
      rw [this, smI_0 D (fun _ _ => rfl)]
    rcases a with ⟨w, w1, rfl, w3⟩ | ⟨w, w1, rfl, w3⟩ | ⟨d, d1, rfl, d3⟩ | ⟨d, d1, rfl, d3⟩
    · have := en _ w1
      rw [cH_f (by omega)] at h6; omega
    · have := en _ w1
      rw [cH_b (by omega)] at h6; omega
    · rw [cH_g (by omega)] at h6; omega
    · have := nn.2 d d1
      omega
  · generalize hv : cH f t e = v at *
    have vD : v < D := by
      rcases a with ⟨w, w1, rfl, w3⟩ | ⟨w, w1, rfl, w3⟩ | ⟨d, d1, rfl, d3⟩ | ⟨d, d1, rfl, d3⟩
      · have := en _ w1; rw [cH_f (by omega)] at hv; omega
      · have := en _ w1; rw [cH_b (by omega)] at hv; omega
      · rw [cH_g (by omega)] at hv; omega
      · rw [cH_h] at hv; omega
    have zl : 0 ≤ dz v := by
      by_cases y : dz v < 0
      · exact absurd cT_h (no' (30 + v) (Or.inr (Or.inr (Or.inr ⟨v, vD, rfl, y⟩))))
      · omega
    have xf : ∀ w, w < W → f w = v → dx w ≤ 0 := fun w hw z => by
      by_cases y : 0 < dx w
      · exact absurd ((cT_f (by omega)).trans z) (no' w (Or.inl ⟨w, hw, rfl, y⟩))
      · omega
    have xt : ∀ w, w < W → t w = v → 0 ≤ dx w := fun w hw z => by
      by_cases y : dx w < 0
      · exact absurd ((cT_b (by omega)).trans z) (no' (12 + w) (Or.inr (Or.inl ⟨w, hw, rfl, y⟩)))
      · omega
    have nn := sm_nn (F := fun w => (if t w = v then dx w else 0) - (if f w = v then dx w else 0)) W (fun w hw => by
      have := en w hw
      by_cases z1 : t w = v
      · have := xt w hw z1
        rw [if_pos z1, if_neg (by omega)]; omega
      · rw [if_neg z1]
        by_cases z2 : f w = v
        · have := xf w hw z2
          rw [if_pos z2]; omega
        · rw [if_neg z2]; omega)
    have bv := b v vD
    unfold nt at bv
    rcases a with ⟨w, w1, rfl, w3⟩ | ⟨w, w1, rfl, w3⟩ | ⟨d, d1, rfl, d3⟩ | ⟨d, d1, rfl, d3⟩
    · rw [cH_f (by omega)] at hv
      have e1 := en _ w1
      have := nn.2 _ w1
      rw [if_pos hv, if_neg (by omega)] at this
      omega
    · rw [cH_b (by omega)] at hv
      have e1 := en _ w1
      have := nn.2 _ w1
      rw [if_neg (by omega), if_pos hv] at this
      omega
    · rw [cH_g (by omega)] at hv
      subst hv
      omega
    · rw [cH_h] at hv; omega
end CZ
