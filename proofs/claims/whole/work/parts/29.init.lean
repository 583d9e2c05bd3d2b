theorem hh_eq (i k : Nat) : hh12.1 i k = if i = 2 ∧ k = 2 ∨ i = 22 ∧ k = 2 ∨ i = 41 ∧ k = 2 ∨ i = 57 ∧ k = 11 then 5 else if (i = 54 ∨ i = 104) ∧ k < 4 then -1 else 0 := by
  simp only [hh12, hh11, hh10, hh9, hh8, hh7, hh6, hh5, hh4, hh3, hh2, hh1, hh0, pI1]
  by_cases a : i = 2
  · subst a; by_cases b : k = 2 <;> simp [b]
  by_cases a : i = 22
  · subst a; by_cases b : k = 2 <;> simp [b]
  by_cases a : i = 41
  · subst a; by_cases b : k = 2 <;> simp [b]
  by_cases a : i = 57
  · subst a; by_cases b : k = 11 <;> simp [b]
  by_cases a : i = 54
  · subst a
    simp
    rcases (show k = 0 ∨ k = 1 ∨ k = 2 ∨ k = 3 ∨ 4 ≤ k by omega) with b | b | b | b | b
    · simp [b]
    · simp [b]
    · simp [b]
    · simp [b]
    · simp [show ¬ k = 0 by omega, show ¬ k = 1 by omega, show ¬ k = 2 by omega, show ¬ k = 3 by omega, show ¬ k < 4 by omega]
  by_cases a : i = 104
  · subst a
    simp
    rcases (show k = 0 ∨ k = 1 ∨ k = 2 ∨ k = 3 ∨ 4 ≤ k by omega) with b | b | b | b | b
    · simp [b]
    · simp [b]
    · simp [b]
    · simp [b]
    · simp [show ¬ k = 0 by omega, show ¬ k = 1 by omega, show ¬ k = 2 by omega, show ¬ k = 3 by omega, show ¬ k < 4 by omega]
  simp [*]
theorem lst_0 (h : HH) (p : Nat) : lst h 0 p = 0 := rfl
theorem inv_init : Inv hh12 := by
  refine ⟨0, 0, 0, 0, 0, 0, ⟨by simp [hh_eq], 0, by omega, by simp [hh_eq]; rfl, by simp [hh_eq]; rfl⟩, ⟨by omega, by omega, by simp [hh_eq]; rfl, by simp [hh_eq]; rfl, by simp [hh_eq]; rfl, by simp [hh_eq]; rfl, by simp [hh_eq], ⟨5, by omega, by omega, by simp [hh_eq]; rfl⟩, by simp [hh_eq], by simp [hh_eq], by simp [hh_eq], by simp [hh_eq]; rfl, by simp [hh_eq]; rfl, by simp [hh_eq]; rfl, by simp [hh_eq]; rfl⟩, ⟨fun d _ => by simp [hh_eq], fun d c _ _ => by simp [hh_eq], fun d hd => absurd hd (by omega), fun d c hd => absurd hd (by omega)⟩,
    ⟨by omega, by simp [hh_eq]; rfl, fun k hk => absurd hk (by omega), fun p _ => by rw [lst_0]; simp [hh_eq]; rfl⟩, ⟨by omega, by simp [hh_eq]; rfl, fun k hk => absurd hk (by omega)⟩, ⟨by omega, by simp [hh_eq]; rfl, fun k hk => absurd hk (by omega)⟩, ⟨by omega, by simp [hh_eq]; rfl, fun k hk => absurd hk (by omega)⟩, fun k _ => by simp [hh_eq], ⟨0, by omega, by simp [hh_eq]; rfl, by simp [hh_eq]; rfl, fun i hi => absurd hi (by omega)⟩, ⟨fun s hs => ⟨by simp [hh_eq, hs], Or.inl (by simp [hh_eq, hs]), ⟨0, by omega, by omega, by simp [hh_eq]; rfl⟩, by simp [hh_eq]⟩, fun k _ => by simp [hh_eq]⟩, ⟨by simp [hh_eq], Or.inl (by simp [hh_eq])⟩⟩
