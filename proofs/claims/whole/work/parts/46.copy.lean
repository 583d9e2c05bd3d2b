theorem cR1 (h : HH) (i j sp dp n a b : Nat) : (cR h i j sp dp n).1 a b = if a = j then va_cpy (h.1 i) (h.1 j) sp dp n b else h.1 a b := rfl
theorem cR_in {h : HH} {i j n y : Nat} {a b c : Int32} (ha : a.toNatClampNeg = 0) (hb : b.toNatClampNeg = 0) (hc : c.toNatClampNeg = n) (hy : y < n) : (cR h i j a.toNatClampNeg b.toNatClampNeg c.toNatClampNeg).1 j y = h.1 i y := by
  rw [cR1, if_pos rfl, ha, hb, hc, pk_cpy_in (by omega) (by omega), Nat.zero_add, Nat.sub_zero]
section CY
variable {X : SX} {d : Nat} {h : HH} {Q : Int32 → HH → Prop}
def cpLaC (h H : HH) (o p : Nat) : Prop := (∀ y, y < 90 → H.1 (o + 1) y = h.1 (p + 1) y) ∧ H.1 o 1 = h.1 p 1 ∧ H.1 o 2 = h.1 p 2 ∧ H.1 o 3 = h.1 p 3 ∧ H.1 o 4 = h.1 p 4 ∧ H.1 o 5 = h.1 p 5
theorem La_copy_22 (q : ∀ H, (∀ r, r < 22 ∨ 23 < r → H.1 r = h.1 r) → cpLaC h H 22 2 → Q 0 H) : E X (d + 1) La_copyFrom 0 [.ref 22, .ref 2] [] h Q := by
  have ho : isLa 22 := ⟨rfl, rfl⟩
  have hp : isLa 2 := ⟨rfl, rfl⟩
  refine (La_copyFrom_0 (La_copyFrom_1 (by assumption) (La_copyFrom_4 (La_copyFrom_5 (La_copyFrom_6 (by assumption) (La_copyFrom_9 (La_copyFrom_10 (La_copyFrom_11 (by assumption) (La_copyFrom_14 (by assumption) (La_copyFrom_15 (by assumption) (by assumption) (by decide) (by decide) (by decide) (by decide) (by decide) (Nat.le_of_ble_eq_true rfl) (La_copyFrom_18 (La_copyFrom_19 (La_copyFrom_20 (by assumption) (La_copyFrom_23 (by assumption) (La_copyFrom_26 (La_copyFrom_27 (La_copyFrom_28 (by assumption) (La_copyFrom_31 (by assumption) (La_copyFrom_34 (La_copyFrom_35 (La_copyFrom_36 (by assumption) (La_copyFrom_39 (by assumption) (La_copyFrom_42 (La_copyFrom_43 (La_copyFrom_44 (by assumption) (La_copyFrom_47 (by assumption) (La_copyFrom_50 (La_copyFrom_51 (La_copyFrom_52 (by assumption) (La_copyFrom_55 (by assumption) (La_copyFrom_58 ?_)))))))))))))))))))))))))))))))
  refine q _ (fun r r1 => ?_) ⟨?_, ?_, ?_, ?_, ?_, ?_⟩
  · simp only [pI_r (show r ≠ 22 by omega), cR_r (show r ≠ 22 + 1 by omega)]
  · intro y hy
    simp only [pI_r (show 22 + 1 ≠ 22 by omega)]
    exact cR_in rfl rfl rfl hy
  all_goals simp [pI1, cR1]
theorem La_copy_2 (q : ∀ H, (∀ r, r < 2 ∨ 3 < r → H.1 r = h.1 r) → cpLaC h H 2 22 → Q 0 H) : E X (d + 1) La_copyFrom 0 [.ref 2, .ref 22] [] h Q := by
  have ho : isLa 2 := ⟨rfl, rfl⟩
  have hp : isLa 22 := ⟨rfl, rfl⟩
  refine (La_copyFrom_0 (La_copyFrom_1 (by assumption) (La_copyFrom_4 (La_copyFrom_5 (La_copyFrom_6 (by assumption) (La_copyFrom_9 (La_copyFrom_10 (La_copyFrom_11 (by assumption) (La_copyFrom_14 (by assumption) (La_copyFrom_15 (by assumption) (by assumption) (by decide) (by decide) (by decide) (by decide) (by decide) (Nat.le_of_ble_eq_true rfl) (La_copyFrom_18 (La_copyFrom_19 (La_copyFrom_20 (by assumption) (La_copyFrom_23 (by assumption) (La_copyFrom_26 (La_copyFrom_27 (La_copyFrom_28 (by assumption) (La_copyFrom_31 (by assumption) (La_copyFrom_34 (La_copyFrom_35 (La_copyFrom_36 (by assumption) (La_copyFrom_39 (by assumption) (La_copyFrom_42 (La_copyFrom_43 (La_copyFrom_44 (by assumption) (La_copyFrom_47 (by assumption) (La_copyFrom_50 (La_copyFrom_51 (La_copyFrom_52 (by assumption) (La_copyFrom_55 (by assumption) (La_copyFrom_58 ?_)))))))))))))))))))))))))))))))
  refine q _ (fun r r1 => ?_) ⟨?_, ?_, ?_, ?_, ?_, ?_⟩
  · simp only [pI_r (show r ≠ 2 by omega), cR_r (show r ≠ 2 + 1 by omega)]
  · intro y hy
    simp only [pI_r (show 2 + 1 ≠ 2 by omega)]
    exact cR_in rfl rfl rfl hy
  all_goals simp [pI1, cR1]
theorem La_copy_41 (q : ∀ H, (∀ r, r < 41 ∨ 42 < r → H.1 r = h.1 r) → cpLaC h H 41 2 → Q 0 H) : E X (d + 1) La_copyFrom 0 [.ref 41, .ref 2] [] h Q := by
  have ho : isLa 41 := ⟨rfl, rfl⟩
  have hp : isLa 2 := ⟨rfl, rfl⟩
  refine (La_copyFrom_0 (La_copyFrom_1 (by assumption) (La_copyFrom_4 (La_copyFrom_5 (La_copyFrom_6 (by assumption) (La_copyFrom_9 (La_copyFrom_10 (La_copyFrom_11 (by assumption) (La_copyFrom_14 (by assumption) (La_copyFrom_15 (by assumption) (by assumption) (by decide) (by decide) (by decide) (by decide) (by decide) (Nat.le_of_ble_eq_true rfl) (La_copyFrom_18 (La_copyFrom_19 (La_copyFrom_20 (by assumption) (La_copyFrom_23 (by assumption) (La_copyFrom_26 (La_copyFrom_27 (La_copyFrom_28 (by assumption) (La_copyFrom_31 (by assumption) (La_copyFrom_34 (La_copyFrom_35 (La_copyFrom_36 (by assumption) (La_copyFrom_39 (by assumption) (La_copyFrom_42 (La_copyFrom_43 (La_copyFrom_44 (by assumption) (La_copyFrom_47 (by assumption) (La_copyFrom_50 (La_copyFrom_51 (La_copyFrom_52 (by assumption) (La_copyFrom_55 (by assumption) (La_copyFrom_58 ?_)))))))))))))))))))))))))))))))
  refine q _ (fun r r1 => ?_) ⟨?_, ?_, ?_, ?_, ?_, ?_⟩
  · simp only [pI_r (show r ≠ 41 by omega), cR_r (show r ≠ 41 + 1 by omega)]
  · intro y hy
    simp only [pI_r (show 41 + 1 ≠ 41 by omega)]
    exact cR_in rfl rfl rfl hy
  all_goals simp [pI1, cR1]
def cpSiC (h H : HH) (o p : Nat) : Prop := (∀ y, y < 200 → H.1 (o + 1) y = h.1 (p + 1) y) ∧ (∀ y, y < 200 → H.1 (o + 2) y = h.1 (p + 2) y) ∧ (∀ y, y < 200 → H.1 (o + 3) y = h.1 (p + 3) y) ∧ (∀ y, y < 1464 → H.1 (o + 4) y = h.1 (p + 4) y) ∧ H.1 o 4 = h.1 p 4
theorem Si_copy_24 (q : ∀ H, (∀ r, r < 24 ∨ 28 < r → H.1 r = h.1 r) → cpSiC h H 24 4 → Q 0 H) : E X (d + 1) Si_copyFrom 0 [.ref 24, .ref 4] [] h Q := by
  have ho : isSi 24 := ⟨rfl, rfl, rfl, rfl, rfl⟩
  have hp : isSi 4 := ⟨rfl, rfl, rfl, rfl, rfl⟩
  refine (Si_copyFrom_0 (Si_copyFrom_1 (by assumption) (Si_copyFrom_4 (Si_copyFrom_5 (Si_copyFrom_6 (by assumption) (Si_copyFrom_9 (Si_copyFrom_10 (Si_copyFrom_11 (by assumption) (Si_copyFrom_14 (by assumption) (Si_copyFrom_15 (by assumption) (by assumption) (by decide) (by decide) (by decide) (by decide) (by decide) (Nat.le_of_ble_eq_true rfl) (Si_copyFrom_18 (Si_copyFrom_19 (by assumption) (Si_copyFrom_22 (Si_copyFrom_23 (Si_copyFrom_24 (by assumption) (Si_copyFrom_27 (Si_copyFrom_28 (Si_copyFrom_29 (by assumption) (Si_copyFrom_32 (by assumption) (Si_copyFrom_33 (by assumption) (by assumption) (by decide) (by decide) (by decide) (by decide) (by decide) (Nat.le_of_ble_eq_true rfl) (Si_copyFrom_36 (Si_copyFrom_37 (by assumption) (Si_copyFrom_40 (Si_copyFrom_41 (Si_copyFrom_42 (by assumption) (Si_copyFrom_45 (Si_copyFrom_46 (Si_copyFrom_47 (by assumption) (Si_copyFrom_50 (by assumption) (Si_copyFrom_51 (by assumption) (by assumption) (by decide) (by decide) (by decide) (by decide) (by decide) (Nat.le_of_ble_eq_true rfl) (Si_copyFrom_54 (Si_copyFrom_55 (by assumption) (Si_copyFrom_58 (Si_copyFrom_59 (Si_copyFrom_60 (by assumption) (Si_copyFrom_63 (Si_copyFrom_64 (Si_copyFrom_65 (by assumption) (Si_copyFrom_68 (by assumption) (Si_copyFrom_69 (by assumption) (by assumption) (by decide) (by decide) (by decide) (by decide) (by decide) (Nat.le_of_ble_eq_true rfl) (Si_copyFrom_72 (Si_copyFrom_73 (Si_copyFrom_74 (by assumption) (Si_copyFrom_77 (by assumption) (Si_copyFrom_80 ?_)))))))))))))))))))))))))))))))))))))))))))))
  refine q _ (fun r r1 => ?_) ⟨?_, ?_, ?_, ?_, ?_⟩
  · simp only [pI_r (show r ≠ 24 by omega), cR_r (show r ≠ 24 + 1 by omega), cR_r (show r ≠ 24 + 2 by omega), cR_r (show r ≠ 24 + 3 by omega), cR_r (show r ≠ 24 + 4 by omega)]
  · intro y hy
    simp only [pI_r (show 24 + 1 ≠ 24 by omega), cR_r (show 24 + 1 ≠ 24 + 4 by omega), cR_r (show 24 + 1 ≠ 24 + 3 by omega), cR_r (show 24 + 1 ≠ 24 + 2 by omega)]
    exact cR_in rfl rfl rfl hy
  · intro y hy
    simp only [pI_r (show 24 + 2 ≠ 24 by omega), cR_r (show 24 + 2 ≠ 24 + 4 by omega), cR_r (show 24 + 2 ≠ 24 + 3 by omega)]
    refine (cR_in rfl rfl rfl hy).trans ?_
    simp only [cR_r (show 4 + 2 ≠ 24 + 1 by omega)]
  · intro y hy
    simp only [pI_r (show 24 + 3 ≠ 24 by omega), cR_r (show 24 + 3 ≠ 24 + 4 by omega)]
    refine (cR_in rfl rfl rfl hy).trans ?_
    simp only [cR_r (show 4 + 3 ≠ 24 + 1 by omega), cR_r (show 4 + 3 ≠ 24 + 2 by omega)]
  · intro y hy
    simp only [pI_r (show 24 + 4 ≠ 24 by omega)]
    refine (cR_in rfl rfl rfl hy).trans ?_
    simp only [cR_r (show 4 + 4 ≠ 24 + 1 by omega), cR_r (show 4 + 4 ≠ 24 + 2 by omega), cR_r (show 4 + 4 ≠ 24 + 3 by omega)]
  all_goals simp [pI1, cR1]
theorem Si_copy_4 (q : ∀ H, (∀ r, r < 4 ∨ 8 < r → H.1 r = h.1 r) → cpSiC h H 4 24 → Q 0 H) : E X (d + 1) Si_copyFrom 0 [.ref 4, .ref 24] [] h Q := by
  have ho : isSi 4 := ⟨rfl, rfl, rfl, rfl, rfl⟩
  have hp : isSi 24 := ⟨rfl, rfl, rfl, rfl, rfl⟩
  refine (Si_copyFrom_0 (Si_copyFrom_1 (by assumption) (Si_copyFrom_4 (Si_copyFrom_5 (Si_copyFrom_6 (by assumption) (Si_copyFrom_9 (Si_copyFrom_10 (Si_copyFrom_11 (by assumption) (Si_copyFrom_14 (by assumption) (Si_copyFrom_15 (by assumption) (by assumption) (by decide) (by decide) (by decide) (by decide) (by decide) (Nat.le_of_ble_eq_true rfl) (Si_copyFrom_18 (Si_copyFrom_19 (by assumption) (Si_copyFrom_22 (Si_copyFrom_23 (Si_copyFrom_24 (by assumption) (Si_copyFrom_27 (Si_copyFrom_28 (Si_copyFrom_29 (by assumption) (Si_copyFrom_32 (by assumption) (Si_copyFrom_33 (by assumption) (by assumption) (by decide) (by decide) (by decide) (by decide) (by decide) (Nat.le_of_ble_eq_true rfl) (Si_copyFrom_36 (Si_copyFrom_37 (by assumption) (Si_copyFrom_40 (Si_copyFrom_41 (Si_copyFrom_42 (by assumption) (Si_copyFrom_45 (Si_copyFrom_46 (Si_copyFrom_47 (by assumption) (Si_copyFrom_50 (by assumption) (Si_copyFrom_51 (by assumption) (by assumption) (by decide) (by decide) (by decide) (by decide) (by decide) (Nat.le_of_ble_eq_true rfl) (Si_copyFrom_54 (Si_copyFrom_55 (by assumption) (Si_copyFrom_58 (Si_copyFrom_59 (Si_copyFrom_60 (by assumption) (Si_copyFrom_63 (Si_copyFrom_64 (Si_copyFrom_65 (by assumption) (Si_copyFrom_68 (by assumption) (Si_copyFrom_69 (by assumption) (by assumption) (by decide) (by decide) (by decide) (by decide) (by decide) (Nat.le_of_ble_eq_true rfl) (Si_copyFrom_72 (Si_copyFrom_73 (Si_copyFrom_74 (by assumption) (Si_copyFrom_77 (by assumption) (Si_copyFrom_80 ?_)))))))))))))))))))))))))))))))))))))))))))))
  refine q _ (fun r r1 => ?_) ⟨?_, ?_, ?_, ?_, ?_⟩
  · simp only [pI_r (show r ≠ 4 by omega), cR_r (show r ≠ 4 + 1 by omega), cR_r (show r ≠ 4 + 2 by omega), cR_r (show r ≠ 4 + 3 by omega), cR_r (show r ≠ 4 + 4 by omega)]
  · intro y hy
    simp only [pI_r (show 4 + 1 ≠ 4 by omega), cR_r (show 4 + 1 ≠ 4 + 4 by omega), cR_r (show 4 + 1 ≠ 4 + 3 by omega), cR_r (show 4 + 1 ≠ 4 + 2 by omega)]
    exact cR_in rfl rfl rfl hy
  · intro y hy
    simp only [pI_r (show 4 + 2 ≠ 4 by omega), cR_r (show 4 + 2 ≠ 4 + 4 by omega), cR_r (show 4 + 2 ≠ 4 + 3 by omega)]
    refine (cR_in rfl rfl rfl hy).trans ?_
    simp only [cR_r (show 24 + 2 ≠ 4 + 1 by omega)]
  · intro y hy
    simp only [pI_r (show 4 + 3 ≠ 4 by omega), cR_r (show 4 + 3 ≠ 4 + 4 by omega)]
    refine (cR_in rfl rfl rfl hy).trans ?_
    simp only [cR_r (show 24 + 3 ≠ 4 + 1 by omega), cR_r (show 24 + 3 ≠ 4 + 2 by omega)]
  · intro y hy
    simp only [pI_r (show 4 + 4 ≠ 4 by omega)]
    refine (cR_in rfl rfl rfl hy).trans ?_
    simp only [cR_r (show 24 + 4 ≠ 4 + 1 by omega), cR_r (show 24 + 4 ≠ 4 + 2 by omega), cR_r (show 24 + 4 ≠ 4 + 3 by omega)]
  all_goals simp [pI1, cR1]
def cpCoC (h H : HH) (o p : Nat) : Prop := (∀ y, y < 108 → H.1 (o + 1) y = h.1 (p + 1) y) ∧ H.1 o 1 = h.1 p 1
theorem Co_copy_29 (q : ∀ H, (∀ r, r < 29 ∨ 30 < r → H.1 r = h.1 r) → cpCoC h H 29 9 → Q 0 H) : E X (d + 1) Co_copyFrom 0 [.ref 29, .ref 9] [] h Q := by
  have ho : isCo 29 := ⟨rfl, rfl⟩
  have hp : isCo 9 := ⟨rfl, rfl⟩
  refine (Co_copyFrom_0 (Co_copyFrom_1 (by assumption) (Co_copyFrom_4 (Co_copyFrom_5 (Co_copyFrom_6 (by assumption) (Co_copyFrom_9 (Co_copyFrom_10 (Co_copyFrom_11 (by assumption) (Co_copyFrom_14 (by assumption) (Co_copyFrom_15 (by assumption) (by assumption) (by decide) (by decide) (by decide) (by decide) (by decide) (Nat.le_of_ble_eq_true rfl) (Co_copyFrom_18 (Co_copyFrom_19 (Co_copyFrom_20 (by assumption) (Co_copyFrom_23 (by assumption) (Co_copyFrom_26 ?_)))))))))))))))
  refine q _ (fun r r1 => ?_) ⟨?_, ?_⟩
  · simp only [pI_r (show r ≠ 29 by omega), cR_r (show r ≠ 29 + 1 by omega)]
  · intro y hy
    simp only [pI_r (show 29 + 1 ≠ 29 by omega)]
    exact cR_in rfl rfl rfl hy
  all_goals simp [pI1, cR1]
theorem Co_copy_9 (q : ∀ H, (∀ r, r < 9 ∨ 10 < r → H.1 r = h.1 r) → cpCoC h H 9 29 → Q 0 H) : E X (d + 1) Co_copyFrom 0 [.ref 9, .ref 29] [] h Q := by
  have ho : isCo 9 := ⟨rfl, rfl⟩
  have hp : isCo 29 := ⟨rfl, rfl⟩
  refine (Co_copyFrom_0 (Co_copyFrom_1 (by assumption) (Co_copyFrom_4 (Co_copyFrom_5 (Co_copyFrom_6 (by assumption) (Co_copyFrom_9 (Co_copyFrom_10 (Co_copyFrom_11 (by assumption) (Co_copyFrom_14 (by assumption) (Co_copyFrom_15 (by assumption) (by assumption) (by decide) (by decide) (by decide) (by decide) (by decide) (Nat.le_of_ble_eq_true rfl) (Co_copyFrom_18 (Co_copyFrom_19 (Co_copyFrom_20 (by assumption) (Co_copyFrom_23 (by assumption) (Co_copyFrom_26 ?_)))))))))))))))
  refine q _ (fun r r1 => ?_) ⟨?_, ?_⟩
  · simp only [pI_r (show r ≠ 9 by omega), cR_r (show r ≠ 9 + 1 by omega)]
  · intro y hy
    simp only [pI_r (show 9 + 1 ≠ 9 by omega)]
    exact cR_in rfl rfl rfl hy
  all_goals simp [pI1, cR1]
def cpWaC (h H : HH) (o p : Nat) : Prop := (∀ y, y < 12 → H.1 (o + 1) y = h.1 (p + 1) y) ∧ (∀ y, y < 12 → H.1 (o + 2) y = h.1 (p + 2) y) ∧ (∀ y, y < 12 → H.1 (o + 3) y = h.1 (p + 3) y) ∧ (∀ y, y < 12 → H.1 (o + 4) y = h.1 (p + 4) y) ∧ H.1 o 4 = h.1 p 4
theorem Wa_copy_31 (q : ∀ H, (∀ r, r < 31 ∨ 35 < r → H.1 r = h.1 r) → cpWaC h H 31 11 → Q 0 H) : E X (d + 1) Wa_copyFrom 0 [.ref 31, .ref 11] [] h Q := by
  have ho : isWa 31 := ⟨rfl, rfl, rfl, rfl, rfl⟩
  have hp : isWa 11 := ⟨rfl, rfl, rfl, rfl, rfl⟩
  refine (Wa_copyFrom_0 (Wa_copyFrom_1 (by assumption) (Wa_copyFrom_4 (Wa_copyFrom_5 (Wa_copyFrom_6 (by assumption) (Wa_copyFrom_9 (Wa_copyFrom_10 (Wa_copyFrom_11 (by assumption) (Wa_copyFrom_14 (by assumption) (Wa_copyFrom_15 (by assumption) (by assumption) (by decide) (by decide) (by decide) (by decide) (by decide) (Nat.le_of_ble_eq_true rfl) (Wa_copyFrom_18 (Wa_copyFrom_19 (by assumption) (Wa_copyFrom_22 (Wa_copyFrom_23 (Wa_copyFrom_24 (by assumption) (Wa_copyFrom_27 (Wa_copyFrom_28 (Wa_copyFrom_29 (by assumption) (Wa_copyFrom_32 (by assumption) (Wa_copyFrom_33 (by assumption) (by assumption) (by decide) (by decide) (by decide) (by decide) (by decide) (Nat.le_of_ble_eq_true rfl) (Wa_copyFrom_36 (Wa_copyFrom_37 (by assumption) (Wa_copyFrom_40 (Wa_copyFrom_41 (Wa_copyFrom_42 (by assumption) (Wa_copyFrom_45 (Wa_copyFrom_46 (Wa_copyFrom_47 (by assumption) (Wa_copyFrom_50 (by assumption) (Wa_copyFrom_51 (by assumption) (by assumption) (by decide) (by decide) (by decide) (by decide) (by decide) (Nat.le_of_ble_eq_true rfl) (Wa_copyFrom_54 (Wa_copyFrom_55 (by assumption) (Wa_copyFrom_58 (Wa_copyFrom_59 (Wa_copyFrom_60 (by assumption) (Wa_copyFrom_63 (Wa_copyFrom_64 (Wa_copyFrom_65 (by assumption) (Wa_copyFrom_68 (by assumption) (Wa_copyFrom_69 (by assumption) (by assumption) (by decide) (by decide) (by decide) (by decide) (by decide) (Nat.le_of_ble_eq_true rfl) (Wa_copyFrom_72 (Wa_copyFrom_73 (Wa_copyFrom_74 (by assumption) (Wa_copyFrom_77 (by assumption) (Wa_copyFrom_80 ?_)))))))))))))))))))))))))))))))))))))))))))))
  refine q _ (fun r r1 => ?_) ⟨?_, ?_, ?_, ?_, ?_⟩
  · simp only [pI_r (show r ≠ 31 by omega), cR_r (show r ≠ 31 + 1 by omega), cR_r (show r ≠ 31 + 2 by omega), cR_r (show r ≠ 31 + 3 by omega), cR_r (show r ≠ 31 + 4 by omega)]
  · intro y hy
    simp only [pI_r (show 31 + 1 ≠ 31 by omega), cR_r (show 31 + 1 ≠ 31 + 4 by omega), cR_r (show 31 + 1 ≠ 31 + 3 by omega), cR_r (show 31 + 1 ≠ 31 + 2 by omega)]
    exact cR_in rfl rfl rfl hy
  · intro y hy
    simp only [pI_r (show 31 + 2 ≠ 31 by omega), cR_r (show 31 + 2 ≠ 31 + 4 by omega), cR_r (show 31 + 2 ≠ 31 + 3 by omega)]
    refine (cR_in rfl rfl rfl hy).trans ?_
    simp only [cR_r (show 11 + 2 ≠ 31 + 1 by omega)]
  · intro y hy
    simp only [pI_r (show 31 + 3 ≠ 31 by omega), cR_r (show 31 + 3 ≠ 31 + 4 by omega)]
    refine (cR_in rfl rfl rfl hy).trans ?_
    simp only [cR_r (show 11 + 3 ≠ 31 + 1 by omega), cR_r (show 11 + 3 ≠ 31 + 2 by omega)]
  · intro y hy
    simp only [pI_r (show 31 + 4 ≠ 31 by omega)]
    refine (cR_in rfl rfl rfl hy).trans ?_
    simp only [cR_r (show 11 + 4 ≠ 31 + 1 by omega), cR_r (show 11 + 4 ≠ 31 + 2 by omega), cR_r (show 11 + 4 ≠ 31 + 3 by omega)]
  all_goals simp [pI1, cR1]
theorem Wa_copy_11 (q : ∀ H, (∀ r, r < 11 ∨ 15 < r → H.1 r = h.1 r) → cpWaC h H 11 31 → Q 0 H) : E X (d + 1) Wa_copyFrom 0 [.ref 11, .ref 31] [] h Q := by
  have ho : isWa 11 := ⟨rfl, rfl, rfl, rfl, rfl⟩
  have hp : isWa 31 := ⟨rfl, rfl, rfl, rfl, rfl⟩
  refine (Wa_copyFrom_0 (Wa_copyFrom_1 (by assumption) (Wa_copyFrom_4 (Wa_copyFrom_5 (Wa_copyFrom_6 (by assumption) (Wa_copyFrom_9 (Wa_copyFrom_10 (Wa_copyFrom_11 (by assumption) (Wa_copyFrom_14 (by assumption) (Wa_copyFrom_15 (by assumption) (by assumption) (by decide) (by decide) (by decide) (by decide) (by decide) (Nat.le_of_ble_eq_true rfl) (Wa_copyFrom_18 (Wa_copyFrom_19 (by assumption) (Wa_copyFrom_22 (Wa_copyFrom_23 (Wa_copyFrom_24 (by assumption) (Wa_copyFrom_27 (Wa_copyFrom_28 (Wa_copyFrom_29 (by assumption) (Wa_copyFrom_32 (by assumption) (Wa_copyFrom_33 (by assumption) (by assumption) (by decide) (by decide) (by decide) (by decide) (by decide) (Nat.le_of_ble_eq_true rfl) (Wa_copyFrom_36 (Wa_copyFrom_37 (by assumption) (Wa_copyFrom_40 (Wa_copyFrom_41 (Wa_copyFrom_42 (by assumption) (Wa_copyFrom_45 (Wa_copyFrom_46 (Wa_copyFrom_47 (by assumption) (Wa_copyFrom_50 (by assumption) (Wa_copyFrom_51 (by assumption) (by assumption) (by decide) (by decide) (by decide) (by decide) (by decide) (Nat.le_of_ble_eq_true rfl) (Wa_copyFrom_54 (Wa_copyFrom_55 (by assumption) (Wa_copyFrom_58 (Wa_copyFrom_59 (Wa_copyFrom_60 (by assumption) (Wa_copyFrom_63 (Wa_copyFrom_64 (Wa_copyFrom_65 (by assumption) (Wa_copyFrom_68 (by assumption) (Wa_copyFrom_69 (by assumption) (by assumption) (by decide) (by decide) (by decide) (by decide) (by decide) (Nat.le_of_ble_eq_true rfl) (Wa_copyFrom_72 (Wa_copyFrom_73 (Wa_copyFrom_74 (by assumption) (Wa_copyFrom_77 (by assumption) (Wa_copyFrom_80 ?_)))))))))))))))))))))))))))))))))))))))))))))
  refine q _ (fun r r1 => ?_) ⟨?_, ?_, ?_, ?_, ?_⟩
  · simp only [pI_r (show r ≠ 11 by omega), cR_r (show r ≠ 11 + 1 by omega), cR_r (show r ≠ 11 + 2 by omega), cR_r (show r ≠ 11 + 3 by omega), cR_r (show r ≠ 11 + 4 by omega)]
  · intro y hy
    simp only [pI_r (show 11 + 1 ≠ 11 by omega), cR_r (show 11 + 1 ≠ 11 + 4 by omega), cR_r (show 11 + 1 ≠ 11 + 3 by omega), cR_r (show 11 + 1 ≠ 11 + 2 by omega)]
    exact cR_in rfl rfl rfl hy
  · intro y hy
    simp only [pI_r (show 11 + 2 ≠ 11 by omega), cR_r (show 11 + 2 ≠ 11 + 4 by omega), cR_r (show 11 + 2 ≠ 11 + 3 by omega)]
    refine (cR_in rfl rfl rfl hy).trans ?_
    simp only [cR_r (show 31 + 2 ≠ 11 + 1 by omega)]
  · intro y hy
    simp only [pI_r (show 11 + 3 ≠ 11 by omega), cR_r (show 11 + 3 ≠ 11 + 4 by omega)]
    refine (cR_in rfl rfl rfl hy).trans ?_
    simp only [cR_r (show 31 + 3 ≠ 11 + 1 by omega), cR_r (show 31 + 3 ≠ 11 + 2 by omega)]
  · intro y hy
    simp only [pI_r (show 11 + 4 ≠ 11 by omega)]
    refine (cR_in rfl rfl rfl hy).trans ?_
    simp only [cR_r (show 31 + 4 ≠ 11 + 1 by omega), cR_r (show 31 + 4 ≠ 11 + 2 by omega), cR_r (show 31 + 4 ≠ 11 + 3 by omega)]
  all_goals simp [pI1, cR1]
def cpWoC (h H : HH) (o p : Nat) : Prop := (∀ y, y < 8 → H.1 (o + 1) y = h.1 (p + 1) y) ∧ (∀ y, y < 8 → H.1 (o + 2) y = h.1 (p + 2) y) ∧ (∀ y, y < 8 → H.1 (o + 3) y = h.1 (p + 3) y) ∧ H.1 o 3 = h.1 p 3
theorem Wo_copy_36 (q : ∀ H, (∀ r, r < 36 ∨ 39 < r → H.1 r = h.1 r) → cpWoC h H 36 16 → Q 0 H) : E X (d + 1) Wo_copyFrom 0 [.ref 36, .ref 16] [] h Q := by
  have ho : isWo 36 := ⟨rfl, rfl, rfl, rfl⟩
  have hp : isWo 16 := ⟨rfl, rfl, rfl, rfl⟩
  refine (Wo_copyFrom_0 (Wo_copyFrom_1 (by assumption) (Wo_copyFrom_4 (Wo_copyFrom_5 (Wo_copyFrom_6 (by assumption) (Wo_copyFrom_9 (Wo_copyFrom_10 (Wo_copyFrom_11 (by assumption) (Wo_copyFrom_14 (by assumption) (Wo_copyFrom_15 (by assumption) (by assumption) (by decide) (by decide) (by decide) (by decide) (by decide) (Nat.le_of_ble_eq_true rfl) (Wo_copyFrom_18 (Wo_copyFrom_19 (by assumption) (Wo_copyFrom_22 (Wo_copyFrom_23 (Wo_copyFrom_24 (by assumption) (Wo_copyFrom_27 (Wo_copyFrom_28 (Wo_copyFrom_29 (by assumption) (Wo_copyFrom_32 (by assumption) (Wo_copyFrom_33 (by assumption) (by assumption) (by decide) (by decide) (by decide) (by decide) (by decide) (Nat.le_of_ble_eq_true rfl) (Wo_copyFrom_36 (Wo_copyFrom_37 (by assumption) (Wo_copyFrom_40 (Wo_copyFrom_41 (Wo_copyFrom_42 (by assumption) (Wo_copyFrom_45 (Wo_copyFrom_46 (Wo_copyFrom_47 (by assumption) (Wo_copyFrom_50 (by assumption) (Wo_copyFrom_51 (by assumption) (by assumption) (by decide) (by decide) (by decide) (by decide) (by decide) (Nat.le_of_ble_eq_true rfl) (Wo_copyFrom_54 (Wo_copyFrom_55 (Wo_copyFrom_56 (by assumption) (Wo_copyFrom_59 (by assumption) (Wo_copyFrom_62 ?_)))))))))))))))))))))))))))))))))))
  refine q _ (fun r r1 => ?_) ⟨?_, ?_, ?_, ?_⟩
  · simp only [pI_r (show r ≠ 36 by omega), cR_r (show r ≠ 36 + 1 by omega), cR_r (show r ≠ 36 + 2 by omega), cR_r (show r ≠ 36 + 3 by omega)]
  · intro y hy
    simp only [pI_r (show 36 + 1 ≠ 36 by omega), cR_r (show 36 + 1 ≠ 36 + 3 by omega), cR_r (show 36 + 1 ≠ 36 + 2 by omega)]
    exact cR_in rfl rfl rfl hy
  · intro y hy
    simp only [pI_r (show 36 + 2 ≠ 36 by omega), cR_r (show 36 + 2 ≠ 36 + 3 by omega)]
    refine (cR_in rfl rfl rfl hy).trans ?_
    simp only [cR_r (show 16 + 2 ≠ 36 + 1 by omega)]
  · intro y hy
    simp only [pI_r (show 36 + 3 ≠ 36 by omega)]
    refine (cR_in rfl rfl rfl hy).trans ?_
    simp only [cR_r (show 16 + 3 ≠ 36 + 1 by omega), cR_r (show 16 + 3 ≠ 36 + 2 by omega)]
  all_goals simp [pI1, cR1]
theorem Wo_copy_16 (q : ∀ H, (∀ r, r < 16 ∨ 19 < r → H.1 r = h.1 r) → cpWoC h H 16 36 → Q 0 H) : E X (d + 1) Wo_copyFrom 0 [.ref 16, .ref 36] [] h Q := by
  have ho : isWo 16 := ⟨rfl, rfl, rfl, rfl⟩
  have hp : isWo 36 := ⟨rfl, rfl, rfl, rfl⟩
  refine (Wo_copyFrom_0 (Wo_copyFrom_1 (by assumption) (Wo_copyFrom_4 (Wo_copyFrom_5 (Wo_copyFrom_6 (by assumption) (Wo_copyFrom_9 (Wo_copyFrom_10 (Wo_copyFrom_11 (by assumption) (Wo_copyFrom_14 (by assumption) (Wo_copyFrom_15 (by assumption) (by assumption) (by decide) (by decide) (by decide) (by decide) (by decide) (Nat.le_of_ble_eq_true rfl) (Wo_copyFrom_18 (Wo_copyFrom_19 (by assumption) (Wo_copyFrom_22 (Wo_copyFrom_23 (Wo_copyFrom_24 (by assumption) (Wo_copyFrom_27 (Wo_copyFrom_28 (Wo_copyFrom_29 (by assumption) (Wo_copyFrom_32 (by assumption) (Wo_copyFrom_33 (by assumption) (by assumption) (by decide) (by decide) (by decide) (by decide) (by decide) (Nat.le_of_ble_eq_true rfl) (Wo_copyFrom_36 (Wo_copyFrom_37 (by assumption) (Wo_copyFrom_40 (Wo_copyFrom_41 (Wo_copyFrom_42 (by assumption) (Wo_copyFrom_45 (Wo_copyFrom_46 (Wo_copyFrom_47 (by assumption) (Wo_copyFrom_50 (by assumption) (Wo_copyFrom_51 (by assumption) (by assumption) (by decide) (by decide) (by decide) (by decide) (by decide) (Nat.le_of_ble_eq_true rfl) (Wo_copyFrom_54 (Wo_copyFrom_55 (Wo_copyFrom_56 (by assumption) (Wo_copyFrom_59 (by assumption) (Wo_copyFrom_62 ?_)))))))))))))))))))))))))))))))))))
  refine q _ (fun r r1 => ?_) ⟨?_, ?_, ?_, ?_⟩
  · simp only [pI_r (show r ≠ 16 by omega), cR_r (show r ≠ 16 + 1 by omega), cR_r (show r ≠ 16 + 2 by omega), cR_r (show r ≠ 16 + 3 by omega)]
  · intro y hy
    simp only [pI_r (show 16 + 1 ≠ 16 by omega), cR_r (show 16 + 1 ≠ 16 + 3 by omega), cR_r (show 16 + 1 ≠ 16 + 2 by omega)]
    exact cR_in rfl rfl rfl hy
  · intro y hy
    simp only [pI_r (show 16 + 2 ≠ 16 by omega), cR_r (show 16 + 2 ≠ 16 + 3 by omega)]
    refine (cR_in rfl rfl rfl hy).trans ?_
    simp only [cR_r (show 36 + 2 ≠ 16 + 1 by omega)]
  · intro y hy
    simp only [pI_r (show 16 + 3 ≠ 16 by omega)]
    refine (cR_in rfl rfl rfl hy).trans ?_
    simp only [cR_r (show 36 + 3 ≠ 16 + 1 by omega), cR_r (show 36 + 3 ≠ 16 + 2 by omega)]
  all_goals simp [pI1, cR1]
def cpStC (h H : HH) (o p : Nat) : Prop := cpLaC h H (o + 1) (p + 1) ∧ cpSiC h H (o + 3) (p + 3) ∧ cpCoC h H (o + 8) (p + 8) ∧ cpWaC h H (o + 10) (p + 10) ∧ cpWoC h H (o + 15) (p + 15) ∧ (∀ y, y < 360 → H.1 (o + 19) y = h.1 (p + 19) y) ∧ H.1 o 6 = h.1 p 6
set_option maxHeartbeats 1000000 in
theorem St_copy_21 (q : ∀ H, (∀ r, r < 21 ∨ 40 < r → H.1 r = h.1 r) → cpStC h H 21 1 → Q 0 H) : E X (d + 2) St_copyFrom 0 [.ref 21, .ref 1] [] h Q := by
  have ho : isSt 21 := by unfold isSt; repeat' constructor
  have hp : isSt 1 := by unfold isSt; repeat' constructor
  refine (St_copyFrom_0 (St_copyFrom_1 (by assumption) (St_copyFrom_4 (St_copyFrom_5 (by assumption) (St_copyFrom_8 (by assumption) (by assumption) (Nat.le_of_ble_eq_true rfl) (La_copy_22 (fun HLa fLa cLa => (St_copyFrom_11 (St_copyFrom_12 (by assumption) (St_copyFrom_15 (St_copyFrom_16 (by assumption) (St_copyFrom_19 (by assumption) (by assumption) (Nat.le_of_ble_eq_true rfl) (Si_copy_24 (fun HSi fSi cSi => (St_copyFrom_22 (St_copyFrom_23 (by assumption) (St_copyFrom_26 (St_copyFrom_27 (by assumption) (St_copyFrom_30 (by assumption) (by assumption) (Nat.le_of_ble_eq_true rfl) (Co_copy_29 (fun HCo fCo cCo => (St_copyFrom_33 (St_copyFrom_34 (by assumption) (St_copyFrom_37 (St_copyFrom_38 (by assumption) (St_copyFrom_41 (by assumption) (by assumption) (Nat.le_of_ble_eq_true rfl) (Wa_copy_31 (fun HWa fWa cWa => (St_copyFrom_44 (St_copyFrom_45 (by assumption) (St_copyFrom_48 (St_copyFrom_49 (by assumption) (St_copyFrom_52 (by assumption) (by assumption) (Nat.le_of_ble_eq_true rfl) (Wo_copy_36 (fun HWo fWo cWo => (St_copyFrom_55 (St_copyFrom_56 (by assumption) (St_copyFrom_59 (St_copyFrom_60 (St_copyFrom_61 (by assumption) (St_copyFrom_64 (St_copyFrom_65 (St_copyFrom_66 (by assumption) (St_copyFrom_69 (by assumption) (St_copyFrom_70 (by assumption) (by assumption) (by decide) (by decide) (by decide) (by decide) (by decide) (Nat.le_of_ble_eq_true rfl) (St_copyFrom_73 (St_copyFrom_74 (St_copyFrom_75 (by assumption) (St_copyFrom_78 (by assumption) (St_copyFrom_81 ?_))))))))))))))))))))))))))))))))))))))))))))))))))
  refine q _ (fun r r1 => ?_) ⟨?_, ?_, ?_, ?_, ?_, fun y hy => ?_, ?_⟩
  · simp only [pI_r (show r ≠ 21 by omega), cR_r (show r ≠ 21 + 19 by omega), fWo r (by omega), fWa r (by omega), fCo r (by omega), fSi r (by omega), fLa r (by omega)]
  · obtain ⟨e0, e1, e2, e3, e4, e5⟩ := cLa
    refine ⟨?_, ?_, ?_, ?_, ?_, ?_⟩
    · intro y hy
      simp only [pI_r (show 21 + 1 + 1 ≠ 21 by omega), cR_r (show 21 + 1 + 1 ≠ 21 + 19 by omega), fWo (21 + 1 + 1) (by omega), fWa (21 + 1 + 1) (by omega), fCo (21 + 1 + 1) (by omega), fSi (21 + 1 + 1) (by omega)]
      refine (e0 y hy).trans ?_
      rfl
    · simp only [pI_r (show 21 + 1 ≠ 21 by omega), cR_r (show 21 + 1 ≠ 21 + 19 by omega), fWo (21 + 1) (by omega), fWa (21 + 1) (by omega), fCo (21 + 1) (by omega), fSi (21 + 1) (by omega)]
      refine e1.trans ?_
      rfl
    · simp only [pI_r (show 21 + 1 ≠ 21 by omega), cR_r (show 21 + 1 ≠ 21 + 19 by omega), fWo (21 + 1) (by omega), fWa (21 + 1) (by omega), fCo (21 + 1) (by omega), fSi (21 + 1) (by omega)]
      refine e2.trans ?_
      rfl
    · simp only [pI_r (show 21 + 1 ≠ 21 by omega), cR_r (show 21 + 1 ≠ 21 + 19 by omega), fWo (21 + 1) (by omega), fWa (21 + 1) (by omega), fCo (21 + 1) (by omega), fSi (21 + 1) (by omega)]
      refine e3.trans ?_
      rfl
    · simp only [pI_r (show 21 + 1 ≠ 21 by omega), cR_r (show 21 + 1 ≠ 21 + 19 by omega), fWo (21 + 1) (by omega), fWa (21 + 1) (by omega), fCo (21 + 1) (by omega), fSi (21 + 1) (by omega)]
      refine e4.trans ?_
      rfl
    · simp only [pI_r (show 21 + 1 ≠ 21 by omega), cR_r (show 21 + 1 ≠ 21 + 19 by omega), fWo (21 + 1) (by omega), fWa (21 + 1) (by omega), fCo (21 + 1) (by omega), fSi (21 + 1) (by omega)]
      refine e5.trans ?_
      rfl
  · obtain ⟨e0, e1, e2, e3, e4⟩ := cSi
    refine ⟨?_, ?_, ?_, ?_, ?_⟩
    · intro y hy
      simp only [pI_r (show 21 + 3 + 1 ≠ 21 by omega), cR_r (show 21 + 3 + 1 ≠ 21 + 19 by omega), fWo (21 + 3 + 1) (by omega), fWa (21 + 3 + 1) (by omega), fCo (21 + 3 + 1) (by omega)]
      refine (e0 y hy).trans ?_
      simp only [fLa (4 + 1) (by omega)]
    · intro y hy
      simp only [pI_r (show 21 + 3 + 2 ≠ 21 by omega), cR_r (show 21 + 3 + 2 ≠ 21 + 19 by omega), fWo (21 + 3 + 2) (by omega), fWa (21 + 3 + 2) (by omega), fCo (21 + 3 + 2) (by omega)]
      refine (e1 y hy).trans ?_
      simp only [fLa (4 + 2) (by omega)]
    · intro y hy
      simp only [pI_r (show 21 + 3 + 3 ≠ 21 by omega), cR_r (show 21 + 3 + 3 ≠ 21 + 19 by omega), fWo (21 + 3 + 3) (by omega), fWa (21 + 3 + 3) (by omega), fCo (21 + 3 + 3) (by omega)]
      refine (e2 y hy).trans ?_
      simp only [fLa (4 + 3) (by omega)]
    · intro y hy
      simp only [pI_r (show 21 + 3 + 4 ≠ 21 by omega), cR_r (show 21 + 3 + 4 ≠ 21 + 19 by omega), fWo (21 + 3 + 4) (by omega), fWa (21 + 3 + 4) (by omega), fCo (21 + 3 + 4) (by omega)]
      refine (e3 y hy).trans ?_
      simp only [fLa (4 + 4) (by omega)]
    · simp only [pI_r (show 21 + 3 ≠ 21 by omega), cR_r (show 21 + 3 ≠ 21 + 19 by omega), fWo (21 + 3) (by omega), fWa (21 + 3) (by omega), fCo (21 + 3) (by omega)]
      refine e4.trans ?_
      simp only [fLa 4 (by omega)]
  · obtain ⟨e0, e1⟩ := cCo
    refine ⟨?_, ?_⟩
    · intro y hy
      simp only [pI_r (show 21 + 8 + 1 ≠ 21 by omega), cR_r (show 21 + 8 + 1 ≠ 21 + 19 by omega), fWo (21 + 8 + 1) (by omega), fWa (21 + 8 + 1) (by omega)]
      refine (e0 y hy).trans ?_
      simp only [fSi (9 + 1) (by omega), fLa (9 + 1) (by omega)]
    · simp only [pI_r (show 21 + 8 ≠ 21 by omega), cR_r (show 21 + 8 ≠ 21 + 19 by omega), fWo (21 + 8) (by omega), fWa (21 + 8) (by omega)]
      refine e1.trans ?_
      simp only [fSi 9 (by omega), fLa 9 (by omega)]
  · obtain ⟨e0, e1, e2, e3, e4⟩ := cWa
    refine ⟨?_, ?_, ?_, ?_, ?_⟩
    · intro y hy
      simp only [pI_r (show 21 + 10 + 1 ≠ 21 by omega), cR_r (show 21 + 10 + 1 ≠ 21 + 19 by omega), fWo (21 + 10 + 1) (by omega)]
      refine (e0 y hy).trans ?_
      simp only [fCo (11 + 1) (by omega), fSi (11 + 1) (by omega), fLa (11 + 1) (by omega)]
    · intro y hy
      simp only [pI_r (show 21 + 10 + 2 ≠ 21 by omega), cR_r (show 21 + 10 + 2 ≠ 21 + 19 by omega), fWo (21 + 10 + 2) (by omega)]
      refine (e1 y hy).trans ?_
      simp only [fCo (11 + 2) (by omega), fSi (11 + 2) (by omega), fLa (11 + 2) (by omega)]
    · intro y hy
      simp only [pI_r (show 21 + 10 + 3 ≠ 21 by omega), cR_r (show 21 + 10 + 3 ≠ 21 + 19 by omega), fWo (21 + 10 + 3) (by omega)]
      refine (e2 y hy).trans ?_
      simp only [fCo (11 + 3) (by omega), fSi (11 + 3) (by omega), fLa (11 + 3) (by omega)]
    · intro y hy
      simp only [pI_r (show 21 + 10 + 4 ≠ 21 by omega), cR_r (show 21 + 10 + 4 ≠ 21 + 19 by omega), fWo (21 + 10 + 4) (by omega)]
      refine (e3 y hy).trans ?_
      simp only [fCo (11 + 4) (by omega), fSi (11 + 4) (by omega), fLa (11 + 4) (by omega)]
    · simp only [pI_r (show 21 + 10 ≠ 21 by omega), cR_r (show 21 + 10 ≠ 21 + 19 by omega), fWo (21 + 10) (by omega)]
      refine e4.trans ?_
      simp only [fCo 11 (by omega), fSi 11 (by omega), fLa 11 (by omega)]
  · obtain ⟨e0, e1, e2, e3⟩ := cWo
    refine ⟨?_, ?_, ?_, ?_⟩
    · intro y hy
      simp only [pI_r (show 21 + 15 + 1 ≠ 21 by omega), cR_r (show 21 + 15 + 1 ≠ 21 + 19 by omega), ]
      refine (e0 y hy).trans ?_
      simp only [fWa (16 + 1) (by omega), fCo (16 + 1) (by omega), fSi (16 + 1) (by omega), fLa (16 + 1) (by omega)]
    · intro y hy
      simp only [pI_r (show 21 + 15 + 2 ≠ 21 by omega), cR_r (show 21 + 15 + 2 ≠ 21 + 19 by omega), ]
      refine (e1 y hy).trans ?_
      simp only [fWa (16 + 2) (by omega), fCo (16 + 2) (by omega), fSi (16 + 2) (by omega), fLa (16 + 2) (by omega)]
    · intro y hy
      simp only [pI_r (show 21 + 15 + 3 ≠ 21 by omega), cR_r (show 21 + 15 + 3 ≠ 21 + 19 by omega), ]
      refine (e2 y hy).trans ?_
      simp only [fWa (16 + 3) (by omega), fCo (16 + 3) (by omega), fSi (16 + 3) (by omega), fLa (16 + 3) (by omega)]
    · simp only [pI_r (show 21 + 15 ≠ 21 by omega), cR_r (show 21 + 15 ≠ 21 + 19 by omega), ]
      refine e3.trans ?_
      simp only [fWa 16 (by omega), fCo 16 (by omega), fSi 16 (by omega), fLa 16 (by omega)]
  · simp only [pI_r (show 21 + 19 ≠ 21 by omega)]
    refine (cR_in rfl rfl rfl hy).trans ?_
    simp only [fWo (1 + 19) (by omega), fWa (1 + 19) (by omega), fCo (1 + 19) (by omega), fSi (1 + 19) (by omega), fLa (1 + 19) (by omega)]
  · simp only [pI1, cR_r (show 1 ≠ 21 + 19 by omega), fWo 1 (by omega), fWa 1 (by omega), fCo 1 (by omega), fSi 1 (by omega), fLa 1 (by omega)]
    simp
set_option maxHeartbeats 1000000 in
theorem St_copy_1 (q : ∀ H, (∀ r, r < 1 ∨ 20 < r → H.1 r = h.1 r) → cpStC h H 1 21 → Q 0 H) : E X (d + 2) St_copyFrom 0 [.ref 1, .ref 21] [] h Q := by
  have ho : isSt 1 := by unfold isSt; repeat' constructor
  have hp : isSt 21 := by unfold isSt; repeat' constructor
  refine (St_copyFrom_0 (St_copyFrom_1 (by assumption) (St_copyFrom_4 (St_copyFrom_5 (by assumption) (St_copyFrom_8 (by assumption) (by assumption) (Nat.le_of_ble_eq_true rfl) (La_copy_2 (fun HLa fLa cLa => (St_copyFrom_11 (St_copyFrom_12 (by assumption) (St_copyFrom_15 (St_copyFrom_16 (by assumption) (St_copyFrom_19 (by assumption) (by assumption) (Nat.le_of_ble_eq_true rfl) (Si_copy_4 (fun HSi fSi cSi => (St_copyFrom_22 (St_copyFrom_23 (by assumption) (St_copyFrom_26 (St_copyFrom_27 (by assumption) (St_copyFrom_30 (by assumption) (by assumption) (Nat.le_of_ble_eq_true rfl) (Co_copy_9 (fun HCo fCo cCo => (St_copyFrom_33 (St_copyFrom_34 (by assumption) (St_copyFrom_37 (St_copyFrom_38 (by assumption) (St_copyFrom_41 (by assumption) (by assumption) (Nat.le_of_ble_eq_true rfl) (Wa_copy_11 (fun HWa fWa cWa => (St_copyFrom_44 (St_copyFrom_45 (by assumption) (St_copyFrom_48 (St_copyFrom_49 (by assumption) (St_copyFrom_52 (by assumption) (by assumption) (Nat.le_of_ble_eq_true rfl) (Wo_copy_16 (fun HWo fWo cWo => (St_copyFrom_55 (St_copyFrom_56 (by assumption) (St_copyFrom_59 (St_copyFrom_60 (St_copyFrom_61 (by assumption) (St_copyFrom_64 (St_copyFrom_65 (St_copyFrom_66 (by assumption) (St_copyFrom_69 (by assumption) (St_copyFrom_70 (by assumption) (by assumption) (by decide) (by decide) (by decide) (by decide) (by decide) (Nat.le_of_ble_eq_true rfl) (St_copyFrom_73 (St_copyFrom_74 (St_copyFrom_75 (by assumption) (St_copyFrom_78 (by assumption) (St_copyFrom_81 ?_))))))))))))))))))))))))))))))))))))))))))))))))))
  refine q _ (fun r r1 => ?_) ⟨?_, ?_, ?_, ?_, ?_, fun y hy => ?_, ?_⟩
  · simp only [pI_r (show r ≠ 1 by omega), cR_r (show r ≠ 1 + 19 by omega), fWo r (by omega), fWa r (by omega), fCo r (by omega), fSi r (by omega), fLa r (by omega)]
  · obtain ⟨e0, e1, e2, e3, e4, e5⟩ := cLa
    refine ⟨?_, ?_, ?_, ?_, ?_, ?_⟩
    · intro y hy
      simp only [pI_r (show 1 + 1 + 1 ≠ 1 by omega), cR_r (show 1 + 1 + 1 ≠ 1 + 19 by omega), fWo (1 + 1 + 1) (by omega), fWa (1 + 1 + 1) (by omega), fCo (1 + 1 + 1) (by omega), fSi (1 + 1 + 1) (by omega)]
      refine (e0 y hy).trans ?_
      rfl
    · simp only [pI_r (show 1 + 1 ≠ 1 by omega), cR_r (show 1 + 1 ≠ 1 + 19 by omega), fWo (1 + 1) (by omega), fWa (1 + 1) (by omega), fCo (1 + 1) (by omega), fSi (1 + 1) (by omega)]
      refine e1.trans ?_
      rfl
    · simp only [pI_r (show 1 + 1 ≠ 1 by omega), cR_r (show 1 + 1 ≠ 1 + 19 by omega), fWo (1 + 1) (by omega), fWa (1 + 1) (by omega), fCo (1 + 1) (by omega), fSi (1 + 1) (by omega)]
      refine e2.trans ?_
      rfl
    · simp only [pI_r (show 1 + 1 ≠ 1 by omega), cR_r (show 1 + 1 ≠ 1 + 19 by omega), fWo (1 + 1) (by omega), fWa (1 + 1) (by omega), fCo (1 + 1) (by omega), fSi (1 + 1) (by omega)]
      refine e3.trans ?_
      rfl
    · simp only [pI_r (show 1 + 1 ≠ 1 by omega), cR_r (show 1 + 1 ≠ 1 + 19 by omega), fWo (1 + 1) (by omega), fWa (1 + 1) (by omega), fCo (1 + 1) (by omega), fSi (1 + 1) (by omega)]
      refine e4.trans ?_
      rfl
    · simp only [pI_r (show 1 + 1 ≠ 1 by omega), cR_r (show 1 + 1 ≠ 1 + 19 by omega), fWo (1 + 1) (by omega), fWa (1 + 1) (by omega), fCo (1 + 1) (by omega), fSi (1 + 1) (by omega)]
      refine e5.trans ?_
      rfl
  · obtain ⟨e0, e1, e2, e3, e4⟩ := cSi
    refine ⟨?_, ?_, ?_, ?_, ?_⟩
    · intro y hy
      simp only [pI_r (show 1 + 3 + 1 ≠ 1 by omega), cR_r (show 1 + 3 + 1 ≠ 1 + 19 by omega), fWo (1 + 3 + 1) (by omega), fWa (1 + 3 + 1) (by omega), fCo (1 + 3 + 1) (by omega)]
      refine (e0 y hy).trans ?_
      simp only [fLa (24 + 1) (by omega)]
    · intro y hy
      simp only [pI_r (show 1 + 3 + 2 ≠ 1 by omega), cR_r (show 1 + 3 + 2 ≠ 1 + 19 by omega), fWo (1 + 3 + 2) (by omega), fWa (1 + 3 + 2) (by omega), fCo (1 + 3 + 2) (by omega)]
      refine (e1 y hy).trans ?_
      simp only [fLa (24 + 2) (by omega)]
    · intro y hy
      simp only [pI_r (show 1 + 3 + 3 ≠ 1 by omega), cR_r (show 1 + 3 + 3 ≠ 1 + 19 by omega), fWo (1 + 3 + 3) (by omega), fWa (1 + 3 + 3) (by omega), fCo (1 + 3 + 3) (by omega)]
      refine (e2 y hy).trans ?_
      simp only [fLa (24 + 3) (by omega)]
    · intro y hy
      simp only [pI_r (show 1 + 3 + 4 ≠ 1 by omega), cR_r (show 1 + 3 + 4 ≠ 1 + 19 by omega), fWo (1 + 3 + 4) (by omega), fWa (1 + 3 + 4) (by omega), fCo (1 + 3 + 4) (by omega)]
      refine (e3 y hy).trans ?_
      simp only [fLa (24 + 4) (by omega)]
    · simp only [pI_r (show 1 + 3 ≠ 1 by omega), cR_r (show 1 + 3 ≠ 1 + 19 by omega), fWo (1 + 3) (by omega), fWa (1 + 3) (by omega), fCo (1 + 3) (by omega)]
      refine e4.trans ?_
      simp only [fLa 24 (by omega)]
  · obtain ⟨e0, e1⟩ := cCo
    refine ⟨?_, ?_⟩
    · intro y hy
      simp only [pI_r (show 1 + 8 + 1 ≠ 1 by omega), cR_r (show 1 + 8 + 1 ≠ 1 + 19 by omega), fWo (1 + 8 + 1) (by omega), fWa (1 + 8 + 1) (by omega)]
      refine (e0 y hy).trans ?_
      simp only [fSi (29 + 1) (by omega), fLa (29 + 1) (by omega)]
    · simp only [pI_r (show 1 + 8 ≠ 1 by omega), cR_r (show 1 + 8 ≠ 1 + 19 by omega), fWo (1 + 8) (by omega), fWa (1 + 8) (by omega)]
      refine e1.trans ?_
      simp only [fSi 29 (by omega), fLa 29 (by omega)]
  · obtain ⟨e0, e1, e2, e3, e4⟩ := cWa
    refine ⟨?_, ?_, ?_, ?_, ?_⟩
    · intro y hy
      simp only [pI_r (show 1 + 10 + 1 ≠ 1 by omega), cR_r (show 1 + 10 + 1 ≠ 1 + 19 by omega), fWo (1 + 10 + 1) (by omega)]
      refine (e0 y hy).trans ?_
      simp only [fCo (31 + 1) (by omega), fSi (31 + 1) (by omega), fLa (31 + 1) (by omega)]
    · intro y hy
      simp only [pI_r (show 1 + 10 + 2 ≠ 1 by omega), cR_r (show 1 + 10 + 2 ≠ 1 + 19 by omega), fWo (1 + 10 + 2) (by omega)]
      refine (e1 y hy).trans ?_
      simp only [fCo (31 + 2) (by omega), fSi (31 + 2) (by omega), fLa (31 + 2) (by omega)]
    · intro y hy
      simp only [pI_r (show 1 + 10 + 3 ≠ 1 by omega), cR_r (show 1 + 10 + 3 ≠ 1 + 19 by omega), fWo (1 + 10 + 3) (by omega)]
      refine (e2 y hy).trans ?_
      simp only [fCo (31 + 3) (by omega), fSi (31 + 3) (by omega), fLa (31 + 3) (by omega)]
    · intro y hy
      simp only [pI_r (show 1 + 10 + 4 ≠ 1 by omega), cR_r (show 1 + 10 + 4 ≠ 1 + 19 by omega), fWo (1 + 10 + 4) (by omega)]
      refine (e3 y hy).trans ?_
      simp only [fCo (31 + 4) (by omega), fSi (31 + 4) (by omega), fLa (31 + 4) (by omega)]
    · simp only [pI_r (show 1 + 10 ≠ 1 by omega), cR_r (show 1 + 10 ≠ 1 + 19 by omega), fWo (1 + 10) (by omega)]
      refine e4.trans ?_
      simp only [fCo 31 (by omega), fSi 31 (by omega), fLa 31 (by omega)]
  · obtain ⟨e0, e1, e2, e3⟩ := cWo
    refine ⟨?_, ?_, ?_, ?_⟩
    · intro y hy
      simp only [pI_r (show 1 + 15 + 1 ≠ 1 by omega), cR_r (show 1 + 15 + 1 ≠ 1 + 19 by omega), ]
      refine (e0 y hy).trans ?_
      simp only [fWa (36 + 1) (by omega), fCo (36 + 1) (by omega), fSi (36 + 1) (by omega), fLa (36 + 1) (by omega)]
    · intro y hy
      simp only [pI_r (show 1 + 15 + 2 ≠ 1 by omega), cR_r (show 1 + 15 + 2 ≠ 1 + 19 by omega), ]
      refine (e1 y hy).trans ?_
      simp only [fWa (36 + 2) (by omega), fCo (36 + 2) (by omega), fSi (36 + 2) (by omega), fLa (36 + 2) (by omega)]
    · intro y hy
      simp only [pI_r (show 1 + 15 + 3 ≠ 1 by omega), cR_r (show 1 + 15 + 3 ≠ 1 + 19 by omega), ]
      refine (e2 y hy).trans ?_
      simp only [fWa (36 + 3) (by omega), fCo (36 + 3) (by omega), fSi (36 + 3) (by omega), fLa (36 + 3) (by omega)]
    · simp only [pI_r (show 1 + 15 ≠ 1 by omega), cR_r (show 1 + 15 ≠ 1 + 19 by omega), ]
      refine e3.trans ?_
      simp only [fWa 36 (by omega), fCo 36 (by omega), fSi 36 (by omega), fLa 36 (by omega)]
  · simp only [pI_r (show 1 + 19 ≠ 1 by omega)]
    refine (cR_in rfl rfl rfl hy).trans ?_
    simp only [fWo (21 + 19) (by omega), fWa (21 + 19) (by omega), fCo (21 + 19) (by omega), fSi (21 + 19) (by omega), fLa (21 + 19) (by omega)]
  · simp only [pI1, cR_r (show 21 ≠ 1 + 19 by omega), fWo 21 (by omega), fWa 21 (by omega), fCo 21 (by omega), fSi 21 (by omega), fLa 21 (by omega)]
    simp
end CY
