def irm (x m : Int32) : Int32 := x - x / m * m
def fmV (x m : Int32) : Int32 := if 0 ≤ x ^^^ m then irm x m else if irm x m = 0 then irm x m else irm x m + m
def moV (x m : Int32) : Int32 := irm (irm x m + m) m
theorem h100 {x : Int32} (hx : inI x (-100) 100) : ∃ j, j < 201 ∧ x = nI j - 100 := by
  have h1 := (fa_le _ _).mp hx.1
  have h2 := (fa_le _ _).mp hx.2
  rw [show (-100 : Int32).toInt = -100 by decide] at h1
  rw [show (100 : Int32).toInt = 100 by decide] at h2
  have e : ∀ j, j < 201 → (nI j - 100).toInt = (j : Int) - 100 := by decide +kernel
  refine ⟨(x.toInt + 100).toNat, by omega, (fa_eq _ _).mpr ?_⟩
  rw [e _ (by omega)]
  omega
theorem fm_6 {x : Int32} (hx : inI x (-100) 100) : ∃ j, j < 6 ∧ fmV x 6 = nI j ∧ moV x 6 = nI j := by
  obtain ⟨i, hi, rfl⟩ := h100 hx
  have e : ∀ j, j < 201 → (moV (nI j - 100) 6).toNatClampNeg < 6 ∧ fmV (nI j - 100) 6 = nI (moV (nI j - 100) 6).toNatClampNeg ∧ moV (nI j - 100) 6 = nI (moV (nI j - 100) 6).toNatClampNeg := by decide +kernel
  exact ⟨_, e i hi⟩
theorem fm_12 {x : Int32} (hx : inI x (-100) 100) : ∃ j, j < 12 ∧ fmV x 12 = nI j ∧ moV x 12 = nI j := by
  obtain ⟨i, hi, rfl⟩ := h100 hx
  have e : ∀ j, j < 201 → (moV (nI j - 100) 12).toNatClampNeg < 12 ∧ fmV (nI j - 100) 12 = nI (moV (nI j - 100) 12).toNatClampNeg ∧ moV (nI j - 100) 12 = nI (moV (nI j - 100) 12).toNatClampNeg := by decide +kernel
  exact ⟨_, e i hi⟩
theorem fm_4 {x : Int32} (hx : inI x (-100) 100) : ∃ j, j < 4 ∧ fmV x 4 = nI j ∧ moV x 4 = nI j := by
  obtain ⟨i, hi, rfl⟩ := h100 hx
  have e : ∀ j, j < 201 → (moV (nI j - 100) 4).toNatClampNeg < 4 ∧ fmV (nI j - 100) 4 = nI (moV (nI j - 100) 4).toNatClampNeg ∧ moV (nI j - 100) 4 = nI (moV (nI j - 100) 4).toNatClampNeg := by decide +kernel
  exact ⟨_, e i hi⟩
theorem fm_2 {x : Int32} (hx : inI x (-100) 100) : ∃ j, j < 2 ∧ fmV x 2 = nI j ∧ moV x 2 = nI j := by
  obtain ⟨i, hi, rfl⟩ := h100 hx
  have e : ∀ j, j < 201 → (moV (nI j - 100) 2).toNatClampNeg < 2 ∧ fmV (nI j - 100) 2 = nI (moV (nI j - 100) 2).toNatClampNeg ∧ moV (nI j - 100) 2 = nI (moV (nI j - 100) 2).toNatClampNeg := by decide +kernel
  exact ⟨_, e i hi⟩
def uB (K j : Nat) : Bool := match K with
  | 0 => decide (j = 0)
  | 1 => decide (j = 1) || decide (j = 0)
  | 2 => decide (j = 2) || (decide (j = 1) || decide (j = 0))
  | 3 => decide (j = 3) || decide (j = 0)
  | 4 => decide (j = 4) || decide (j = 0)
  | _ => decide (j = 5) || (decide (j = 4) || decide (j = 0))
section FG
variable {X : SX} {d j u l s : Nat} {h : HH} {Q : Int32 → HH → Prop} {x m y k0 : Int32}
theorem JM_floorMod_c (hm : ¬ m = 0) (k : Q (fmV x m) h) : E X d JM_floorMod 0 [.int x, .int m, U0] [] h Q := by
  unfold fmV irm at k
  refine (JM_floorMod_0 (JM_floorMod_1 (JM_floorMod_2 ?_ (JM_floorMod_3 (JM_floorMod_4 (JM_floorMod_5 (JM_floorMod_6 (JM_floorMod_7 (fun c7 => (JM_floorMod_18 (JM_floorMod_19 ?_))) (fun c7 => (JM_floorMod_10 (JM_floorMod_11 (fun c11 => (JM_floorMod_18 (JM_floorMod_19 ?_))) (fun c11 => (JM_floorMod_14 (JM_floorMod_15 (JM_floorMod_16 (JM_floorMod_17 ?_))))))))))))))))
  · exact hm
  · rw [if_pos c7] at k; exact k
  · rw [if_neg c7, if_pos c11] at k; exact k
  · rw [if_neg c7, if_neg c11] at k; exact k
theorem FM_modulo_c (hm : ¬ m = 0) (k : Q (moV x m) h) : E X d FM_modulo 0 [.int x, .int m] [] h Q := by
  refine (FM_modulo_0 (FM_modulo_1 (FM_modulo_2 ?_ (FM_modulo_3 (FM_modulo_4 (FM_modulo_5 (FM_modulo_6 ?_ (FM_modulo_7 ?_))))))))
  · exact hm
  · exact hm
  · exact k
theorem UC_0 (hj : j < 6) (hu : u + 1 ≤ 6) (t : uB 0 j = true → Q 1 h) (f : uB 0 j = false → Q 0 h) : E X (d + 2) FC_isUnder 4 [.int k0, .int (nI j), .int (nI 0), .int (nI u)] [] h Q := by
  refine (FC_isUnder_4 (FC_isUnder_5 (FC_isUnder_7 (fun c7 => (FC_isUnder_36 (FC_isUnder_37 rfl ?_))) (fun c7 => (FC_isUnder_10 (FC_isUnder_11 (Nat.le_of_ble_eq_true rfl) (FC_isKind_n (fun j11 u11 e11 => (FC_isUnder_14 (fun z => absurd z (by decide)) (fun _ => (FC_isUnder_17 (FC_isUnder_18 (FC_isUnder_19 (fun c19 => (FC_isUnder_24 (FC_isUnder_27 (FC_isUnder_28n (by first | assumption | exact rfl) (by omega) (FC_isUnder_29 (FC_isUnder_30 (FC_isUnder_33 ?_))))))) (fun c19 => (FC_isUnder_22 (FC_isUnder_23 rfl ?_))))))))) (fun n11 => (FC_isUnder_14 (fun _ => (FC_isUnder_36 (FC_isUnder_37 rfl ?_))) (fun z => absurd z (by decide)))))))))))
  · exact absurd ((leN (show (6 : Int32) = nI 6 from rfl) rfl (by omega) (by omega)).mp c7) (by omega)
  · obtain rfl := nI_inj e11 (by omega) (by omega)
    have nj : ¬ j = 0 := fun z => c19 (by rw [z])
    rw [nI_1]
    refine (FC_isUnder_4 (FC_isUnder_5 (FC_isUnder_7 (fun b7 => (FC_isUnder_36 (FC_isUnder_37 rfl ?_))) (fun b7 => (FC_isUnder_10 (FC_isUnder_11 (Nat.le_of_ble_eq_true rfl) (FC_isKind_n (fun j11b u11b e11b => (FC_isUnder_14 (fun z => absurd z (by decide)) (fun _ => (FC_isUnder_17 (FC_isUnder_18 (FC_isUnder_19 (fun b19 => (FC_isUnder_24 (FC_isUnder_27 (FC_isUnder_28n (by first | assumption | exact rfl) (by omega) (FC_isUnder_29 (FC_isUnder_30 (FC_isUnder_33 ?_))))))) (fun b19 => (FC_isUnder_22 (FC_isUnder_23 rfl ?_))))))))) (fun n11b => (FC_isUnder_14 (fun _ => (FC_isUnder_36 (FC_isUnder_37 rfl ?_))) (fun z => absurd z (by decide)))))))))))
    · exact f (by simp [uB, nj])
    · exact absurd e11b.symm (nI_m1 (by omega))
    · exact absurd e11b.symm (nI_m1 (by omega))
    · exact f (by simp [uB, nj])
  · have nj : j = 0 := (nI_inj c19 (by omega) (by omega)).symm
    exact t (by rw [nj]; rfl)
  · exact absurd ⟨0, by omega, by omega, rfl⟩ n11
theorem UC_1 (hj : j < 6) (hu : u + 2 ≤ 6) (t : uB 1 j = true → Q 1 h) (f : uB 1 j = false → Q 0 h) : E X (d + 2) FC_isUnder 4 [.int k0, .int (nI j), .int (nI 1), .int (nI u)] [] h Q := by
  refine (FC_isUnder_4 (FC_isUnder_5 (FC_isUnder_7 (fun c7 => (FC_isUnder_36 (FC_isUnder_37 rfl ?_))) (fun c7 => (FC_isUnder_10 (FC_isUnder_11 (Nat.le_of_ble_eq_true rfl) (FC_isKind_n (fun j11 u11 e11 => (FC_isUnder_14 (fun z => absurd z (by decide)) (fun _ => (FC_isUnder_17 (FC_isUnder_18 (FC_isUnder_19 (fun c19 => (FC_isUnder_24 (FC_isUnder_27 (FC_isUnder_28n (by first | assumption | exact rfl) (by omega) (FC_isUnder_29 (FC_isUnder_30 (FC_isUnder_33 ?_))))))) (fun c19 => (FC_isUnder_22 (FC_isUnder_23 rfl ?_))))))))) (fun n11 => (FC_isUnder_14 (fun _ => (FC_isUnder_36 (FC_isUnder_37 rfl ?_))) (fun z => absurd z (by decide)))))))))))
  · exact absurd ((leN (show (6 : Int32) = nI 6 from rfl) rfl (by omega) (by omega)).mp c7) (by omega)
  · obtain rfl := nI_inj e11 (by omega) (by omega)
    have nj : ¬ j = 1 := fun z => c19 (by rw [z])
    rw [nI_1]
    refine UC_0 hj (by omega) (fun z => t ?_) (fun z => f ?_)
    · rw [← z]; simp [uB, nj]
    · rw [← z]; simp [uB, nj]
  · have nj : j = 1 := (nI_inj c19 (by omega) (by omega)).symm
    exact t (by rw [nj]; rfl)
  · exact absurd ⟨1, by omega, by omega, rfl⟩ n11
theorem UC_2 (hj : j < 6) (hu : u + 3 ≤ 6) (t : uB 2 j = true → Q 1 h) (f : uB 2 j = false → Q 0 h) : E X (d + 2) FC_isUnder 4 [.int k0, .int (nI j), .int (nI 2), .int (nI u)] [] h Q := by
  refine (FC_isUnder_4 (FC_isUnder_5 (FC_isUnder_7 (fun c7 => (FC_isUnder_36 (FC_isUnder_37 rfl ?_))) (fun c7 => (FC_isUnder_10 (FC_isUnder_11 (Nat.le_of_ble_eq_true rfl) (FC_isKind_n (fun j11 u11 e11 => (FC_isUnder_14 (fun z => absurd z (by decide)) (fun _ => (FC_isUnder_17 (FC_isUnder_18 (FC_isUnder_19 (fun c19 => (FC_isUnder_24 (FC_isUnder_27 (FC_isUnder_28n (by first | assumption | exact rfl) (by omega) (FC_isUnder_29 (FC_isUnder_30 (FC_isUnder_33 ?_))))))) (fun c19 => (FC_isUnder_22 (FC_isUnder_23 rfl ?_))))))))) (fun n11 => (FC_isUnder_14 (fun _ => (FC_isUnder_36 (FC_isUnder_37 rfl ?_))) (fun z => absurd z (by decide)))))))))))
  · exact absurd ((leN (show (6 : Int32) = nI 6 from rfl) rfl (by omega) (by omega)).mp c7) (by omega)
  · obtain rfl := nI_inj e11 (by omega) (by omega)
    have nj : ¬ j = 2 := fun z => c19 (by rw [z])
    rw [nI_1]
    refine UC_1 hj (by omega) (fun z => t ?_) (fun z => f ?_)
    · rw [← z]; simp [uB, nj]
    · rw [← z]; simp [uB, nj]
  · have nj : j = 2 := (nI_inj c19 (by omega) (by omega)).symm
    exact t (by rw [nj]; rfl)
  · exact absurd ⟨2, by omega, by omega, rfl⟩ n11
theorem UC_3 (hj : j < 6) (hu : u + 2 ≤ 6) (t : uB 3 j = true → Q 1 h) (f : uB 3 j = false → Q 0 h) : E X (d + 2) FC_isUnder 4 [.int k0, .int (nI j), .int (nI 3), .int (nI u)] [] h Q := by
  refine (FC_isUnder_4 (FC_isUnder_5 (FC_isUnder_7 (fun c7 => (FC_isUnder_36 (FC_isUnder_37 rfl ?_))) (fun c7 => (FC_isUnder_10 (FC_isUnder_11 (Nat.le_of_ble_eq_true rfl) (FC_isKind_n (fun j11 u11 e11 => (FC_isUnder_14 (fun z => absurd z (by decide)) (fun _ => (FC_isUnder_17 (FC_isUnder_18 (FC_isUnder_19 (fun c19 => (FC_isUnder_24 (FC_isUnder_27 (FC_isUnder_28n (by first | assumption | exact rfl) (by omega) (FC_isUnder_29 (FC_isUnder_30 (FC_isUnder_33 ?_))))))) (fun c19 => (FC_isUnder_22 (FC_isUnder_23 rfl ?_))))))))) (fun n11 => (FC_isUnder_14 (fun _ => (FC_isUnder_36 (FC_isUnder_37 rfl ?_))) (fun z => absurd z (by decide)))))))))))
  · exact absurd ((leN (show (6 : Int32) = nI 6 from rfl) rfl (by omega) (by omega)).mp c7) (by omega)
  · obtain rfl := nI_inj e11 (by omega) (by omega)
    have nj : ¬ j = 3 := fun z => c19 (by rw [z])
    rw [nI_1]
    refine UC_0 hj (by omega) (fun z => t ?_) (fun z => f ?_)
    · rw [← z]; simp [uB, nj]
    · rw [← z]; simp [uB, nj]
  · have nj : j = 3 := (nI_inj c19 (by omega) (by omega)).symm
    exact t (by rw [nj]; rfl)
  · exact absurd ⟨3, by omega, by omega, rfl⟩ n11
theorem UC_4 (hj : j < 6) (hu : u + 2 ≤ 6) (t : uB 4 j = true → Q 1 h) (f : uB 4 j = false → Q 0 h) : E X (d + 2) FC_isUnder 4 [.int k0, .int (nI j), .int (nI 4), .int (nI u)] [] h Q := by
  refine (FC_isUnder_4 (FC_isUnder_5 (FC_isUnder_7 (fun c7 => (FC_isUnder_36 (FC_isUnder_37 rfl ?_))) (fun c7 => (FC_isUnder_10 (FC_isUnder_11 (Nat.le_of_ble_eq_true rfl) (FC_isKind_n (fun j11 u11 e11 => (FC_isUnder_14 (fun z => absurd z (by decide)) (fun _ => (FC_isUnder_17 (FC_isUnder_18 (FC_isUnder_19 (fun c19 => (FC_isUnder_24 (FC_isUnder_27 (FC_isUnder_28n (by first | assumption | exact rfl) (by omega) (FC_isUnder_29 (FC_isUnder_30 (FC_isUnder_33 ?_))))))) (fun c19 => (FC_isUnder_22 (FC_isUnder_23 rfl ?_))))))))) (fun n11 => (FC_isUnder_14 (fun _ => (FC_isUnder_36 (FC_isUnder_37 rfl ?_))) (fun z => absurd z (by decide)))))))))))
  · exact absurd ((leN (show (6 : Int32) = nI 6 from rfl) rfl (by omega) (by omega)).mp c7) (by omega)
  · obtain rfl := nI_inj e11 (by omega) (by omega)
    have nj : ¬ j = 4 := fun z => c19 (by rw [z])
    rw [nI_1]
    refine UC_0 hj (by omega) (fun z => t ?_) (fun z => f ?_)
    · rw [← z]; simp [uB, nj]
    · rw [← z]; simp [uB, nj]
  · have nj : j = 4 := (nI_inj c19 (by omega) (by omega)).symm
    exact t (by rw [nj]; rfl)
  · exact absurd ⟨4, by omega, by omega, rfl⟩ n11
theorem UC_5 (hj : j < 6) (hu : u + 3 ≤ 6) (t : uB 5 j = true → Q 1 h) (f : uB 5 j = false → Q 0 h) : E X (d + 2) FC_isUnder 4 [.int k0, .int (nI j), .int (nI 5), .int (nI u)] [] h Q := by
  refine (FC_isUnder_4 (FC_isUnder_5 (FC_isUnder_7 (fun c7 => (FC_isUnder_36 (FC_isUnder_37 rfl ?_))) (fun c7 => (FC_isUnder_10 (FC_isUnder_11 (Nat.le_of_ble_eq_true rfl) (FC_isKind_n (fun j11 u11 e11 => (FC_isUnder_14 (fun z => absurd z (by decide)) (fun _ => (FC_isUnder_17 (FC_isUnder_18 (FC_isUnder_19 (fun c19 => (FC_isUnder_24 (FC_isUnder_27 (FC_isUnder_28n (by first | assumption | exact rfl) (by omega) (FC_isUnder_29 (FC_isUnder_30 (FC_isUnder_33 ?_))))))) (fun c19 => (FC_isUnder_22 (FC_isUnder_23 rfl ?_))))))))) (fun n11 => (FC_isUnder_14 (fun _ => (FC_isUnder_36 (FC_isUnder_37 rfl ?_))) (fun z => absurd z (by decide)))))))))))
  · exact absurd ((leN (show (6 : Int32) = nI 6 from rfl) rfl (by omega) (by omega)).mp c7) (by omega)
  · obtain rfl := nI_inj e11 (by omega) (by omega)
    have nj : ¬ j = 5 := fun z => c19 (by rw [z])
    rw [nI_1]
    refine UC_4 hj (by omega) (fun z => t ?_) (fun z => f ?_)
    · rw [← z]; simp [uB, nj]
    · rw [← z]; simp [uB, nj]
  · have nj : j = 5 := (nI_inj c19 (by omega) (by omega)).symm
    exact t (by rw [nj]; rfl)
  · exact absurd ⟨5, by omega, by omega, rfl⟩ n11
theorem FC_isUnder_c {K : Nat} {k1 : Int32} (hK : K < 6) (hj : j < 6) (e1 : k0 = nI K) (e2 : k1 = nI j) (t : uB K j = true → Q 1 h) (f : uB K j = false → Q 0 h) : E X (d + 2) FC_isUnder 0 [.int k0, .int k1, U0, U0] [] h Q := by
  subst e1; subst e2
  refine (FC_isUnder_0 (FC_isUnder_1 (FC_isUnder_2 (FC_isUnder_3 ?_))))
  match K, hK, t, f with
  | 0, _, t, f => exact UC_0 (u := 0) hj (by omega) t f
  | 1, _, t, f => exact UC_1 (u := 0) hj (by omega) t f
  | 2, _, t, f => exact UC_2 (u := 0) hj (by omega) t f
  | 3, _, t, f => exact UC_3 (u := 0) hj (by omega) t f
  | 4, _, t, f => exact UC_4 (u := 0) hj (by omega) t f
  | 5, _, t, f => exact UC_5 (u := 0) hj (by omega) t f
  | _ + 6, z, _, _ => exact absurd z (by omega)
theorem UM_0 (hj : j < 6) (t : uB 0 j = true → Q 1 h) (f : uB 0 j = false → Q 0 h) : E X d FM_isUnder 2 [.ref 57, .int k0, .int (nI j), .int (nI 0)] [] h Q := by
  refine (FM_isUnder_2 (FM_isUnder_3 (FM_isUnder_4 (fun c4 => (FM_isUnder_34 (FM_isUnder_35 (FM_isUnder_36 (fun c36 => (FM_isUnder_43 (FM_isUnder_44 rfl ?_))) (fun c36 => (FM_isUnder_39 (FM_isUnder_40 (FM_isUnder_44 rfl ?_)))))))) (fun c4 => (FM_isUnder_7 (FM_isUnder_8 (fun c8 => (FM_isUnder_34 (FM_isUnder_35 (FM_isUnder_36 (fun c36 => (FM_isUnder_43 (FM_isUnder_44 rfl ?_))) (fun c36 => (FM_isUnder_39 (FM_isUnder_40 (FM_isUnder_44 rfl ?_)))))))) (fun c8 => (FM_isUnder_11 (FM_isUnder_12 (FM_isUnder_13 (fun c13 => (FM_isUnder_20 (FM_isUnder_21 (FM_isUnder_22 (fun c22 => (FM_isUnder_29 (FM_isUnder_30 (FM_isUnder_31 ?_)))) (fun c22 => (FM_isUnder_25 (FM_isUnder_26 (FM_isUnder_30 (FM_isUnder_31 ?_))))))))) (fun c13 => (FM_isUnder_16 (FM_isUnder_17 (FM_isUnder_30 (FM_isUnder_31 ?_)))))))))))))))
  · exact absurd c4 c36
  · have nj : j = 0 := (nI_inj c4 (by omega) (by omega)).symm
    exact t (by rw [nj]; rfl)
  · have nj : ¬ j = 0 := fun z => c4 (by rw [z])
    exact f (by simp [uB, nj])
  · exact absurd c36 c4
  · exact absurd (show nI 0 = 0 from rfl) c8
  · exact absurd (show nI 0 = 0 from rfl) c8
  · exact absurd (show nI 0 = 0 from rfl) c8
theorem UM_1 (hj : j < 6) (t : uB 1 j = true → Q 1 h) (f : uB 1 j = false → Q 0 h) : E X d FM_isUnder 2 [.ref 57, .int k0, .int (nI j), .int (nI 1)] [] h Q := by
  refine (FM_isUnder_2 (FM_isUnder_3 (FM_isUnder_4 (fun c4 => (FM_isUnder_34 (FM_isUnder_35 (FM_isUnder_36 (fun c36 => (FM_isUnder_43 (FM_isUnder_44 rfl ?_))) (fun c36 => (FM_isUnder_39 (FM_isUnder_40 (FM_isUnder_44 rfl ?_)))))))) (fun c4 => (FM_isUnder_7 (FM_isUnder_8 (fun c8 => (FM_isUnder_34 (FM_isUnder_35 (FM_isUnder_36 (fun c36 => (FM_isUnder_43 (FM_isUnder_44 rfl ?_))) (fun c36 => (FM_isUnder_39 (FM_isUnder_40 (FM_isUnder_44 rfl ?_)))))))) (fun c8 => (FM_isUnder_11 (FM_isUnder_12 (FM_isUnder_13 (fun c13 => (FM_isUnder_20 (FM_isUnder_21 (FM_isUnder_22 (fun c22 => (FM_isUnder_29 (FM_isUnder_30 (FM_isUnder_31 ?_)))) (fun c22 => (FM_isUnder_25 (FM_isUnder_26 (FM_isUnder_30 (FM_isUnder_31 ?_))))))))) (fun c13 => (FM_isUnder_16 (FM_isUnder_17 (FM_isUnder_30 (FM_isUnder_31 ?_)))))))))))))))
  · exact absurd c4 c36
  · have nj : j = 1 := (nI_inj c4 (by omega) (by omega)).symm
    exact t (by rw [nj]; rfl)
  · exact absurd c8 (by decide)
  · exact absurd c8 (by decide)
  ·
    have nj : ¬ j = 1 := fun z => c4 (by rw [z])
    refine UM_0 hj (fun z => t ?_) (fun z => f ?_)
    · rw [← z]; simp [uB, nj]
    · rw [← z]; simp [uB, nj]
  · exact absurd c22 (by decide)
  · exact absurd c13 (by decide)
theorem UM_2 (hj : j < 6) (t : uB 2 j = true → Q 1 h) (f : uB 2 j = false → Q 0 h) : E X d FM_isUnder 2 [.ref 57, .int k0, .int (nI j), .int (nI 2)] [] h Q := by
  refine (FM_isUnder_2 (FM_isUnder_3 (FM_isUnder_4 (fun c4 => (FM_isUnder_34 (FM_isUnder_35 (FM_isUnder_36 (fun c36 => (FM_isUnder_43 (FM_isUnder_44 rfl ?_))) (fun c36 => (FM_isUnder_39 (FM_isUnder_40 (FM_isUnder_44 rfl ?_)))))))) (fun c4 => (FM_isUnder_7 (FM_isUnder_8 (fun c8 => (FM_isUnder_34 (FM_isUnder_35 (FM_isUnder_36 (fun c36 => (FM_isUnder_43 (FM_isUnder_44 rfl ?_))) (fun c36 => (FM_isUnder_39 (FM_isUnder_40 (FM_isUnder_44 rfl ?_)))))))) (fun c8 => (FM_isUnder_11 (FM_isUnder_12 (FM_isUnder_13 (fun c13 => (FM_isUnder_20 (FM_isUnder_21 (FM_isUnder_22 (fun c22 => (FM_isUnder_29 (FM_isUnder_30 (FM_isUnder_31 ?_)))) (fun c22 => (FM_isUnder_25 (FM_isUnder_26 (FM_isUnder_30 (FM_isUnder_31 ?_))))))))) (fun c13 => (FM_isUnder_16 (FM_isUnder_17 (FM_isUnder_30 (FM_isUnder_31 ?_)))))))))))))))
  · exact absurd c4 c36
  · have nj : j = 2 := (nI_inj c4 (by omega) (by omega)).symm
    exact t (by rw [nj]; rfl)
  · exact absurd c8 (by decide)
  · exact absurd c8 (by decide)
  · exact absurd rfl c13
  · exact absurd rfl c13
  ·
    have nj : ¬ j = 2 := fun z => c4 (by rw [z])
    refine UM_1 hj (fun z => t ?_) (fun z => f ?_)
    · rw [← z]; simp [uB, nj]
    · rw [← z]; simp [uB, nj]
theorem UM_3 (hj : j < 6) (t : uB 3 j = true → Q 1 h) (f : uB 3 j = false → Q 0 h) : E X d FM_isUnder 2 [.ref 57, .int k0, .int (nI j), .int (nI 3)] [] h Q := by
  refine (FM_isUnder_2 (FM_isUnder_3 (FM_isUnder_4 (fun c4 => (FM_isUnder_34 (FM_isUnder_35 (FM_isUnder_36 (fun c36 => (FM_isUnder_43 (FM_isUnder_44 rfl ?_))) (fun c36 => (FM_isUnder_39 (FM_isUnder_40 (FM_isUnder_44 rfl ?_)))))))) (fun c4 => (FM_isUnder_7 (FM_isUnder_8 (fun c8 => (FM_isUnder_34 (FM_isUnder_35 (FM_isUnder_36 (fun c36 => (FM_isUnder_43 (FM_isUnder_44 rfl ?_))) (fun c36 => (FM_isUnder_39 (FM_isUnder_40 (FM_isUnder_44 rfl ?_)))))))) (fun c8 => (FM_isUnder_11 (FM_isUnder_12 (FM_isUnder_13 (fun c13 => (FM_isUnder_20 (FM_isUnder_21 (FM_isUnder_22 (fun c22 => (FM_isUnder_29 (FM_isUnder_30 (FM_isUnder_31 ?_)))) (fun c22 => (FM_isUnder_25 (FM_isUnder_26 (FM_isUnder_30 (FM_isUnder_31 ?_))))))))) (fun c13 => (FM_isUnder_16 (FM_isUnder_17 (FM_isUnder_30 (FM_isUnder_31 ?_)))))))))))))))
  · exact absurd c4 c36
  · have nj : j = 3 := (nI_inj c4 (by omega) (by omega)).symm
    exact t (by rw [nj]; rfl)
  · exact absurd c8 (by decide)
  · exact absurd c8 (by decide)
  ·
    have nj : ¬ j = 3 := fun z => c4 (by rw [z])
    refine UM_0 hj (fun z => t ?_) (fun z => f ?_)
    · rw [← z]; simp [uB, nj]
    · rw [← z]; simp [uB, nj]
  · exact absurd c22 (by decide)
  · exact absurd c13 (by decide)
theorem UM_4 (hj : j < 6) (t : uB 4 j = true → Q 1 h) (f : uB 4 j = false → Q 0 h) : E X d FM_isUnder 2 [.ref 57, .int k0, .int (nI j), .int (nI 4)] [] h Q := by
  refine (FM_isUnder_2 (FM_isUnder_3 (FM_isUnder_4 (fun c4 => (FM_isUnder_34 (FM_isUnder_35 (FM_isUnder_36 (fun c36 => (FM_isUnder_43 (FM_isUnder_44 rfl ?_))) (fun c36 => (FM_isUnder_39 (FM_isUnder_40 (FM_isUnder_44 rfl ?_)))))))) (fun c4 => (FM_isUnder_7 (FM_isUnder_8 (fun c8 => (FM_isUnder_34 (FM_isUnder_35 (FM_isUnder_36 (fun c36 => (FM_isUnder_43 (FM_isUnder_44 rfl ?_))) (fun c36 => (FM_isUnder_39 (FM_isUnder_40 (FM_isUnder_44 rfl ?_)))))))) (fun c8 => (FM_isUnder_11 (FM_isUnder_12 (FM_isUnder_13 (fun c13 => (FM_isUnder_20 (FM_isUnder_21 (FM_isUnder_22 (fun c22 => (FM_isUnder_29 (FM_isUnder_30 (FM_isUnder_31 ?_)))) (fun c22 => (FM_isUnder_25 (FM_isUnder_26 (FM_isUnder_30 (FM_isUnder_31 ?_))))))))) (fun c13 => (FM_isUnder_16 (FM_isUnder_17 (FM_isUnder_30 (FM_isUnder_31 ?_)))))))))))))))
  · exact absurd c4 c36
  · have nj : j = 4 := (nI_inj c4 (by omega) (by omega)).symm
    exact t (by rw [nj]; rfl)
  · exact absurd c8 (by decide)
  · exact absurd c8 (by decide)
  ·
    have nj : ¬ j = 4 := fun z => c4 (by rw [z])
    refine UM_0 hj (fun z => t ?_) (fun z => f ?_)
    · rw [← z]; simp [uB, nj]
    · rw [← z]; simp [uB, nj]
  · exact absurd c22 (by decide)
  · exact absurd c13 (by decide)
theorem UM_5 (hj : j < 6) (t : uB 5 j = true → Q 1 h) (f : uB 5 j = false → Q 0 h) : E X d FM_isUnder 2 [.ref 57, .int k0, .int (nI j), .int (nI 5)] [] h Q := by
  refine (FM_isUnder_2 (FM_isUnder_3 (FM_isUnder_4 (fun c4 => (FM_isUnder_34 (FM_isUnder_35 (FM_isUnder_36 (fun c36 => (FM_isUnder_43 (FM_isUnder_44 rfl ?_))) (fun c36 => (FM_isUnder_39 (FM_isUnder_40 (FM_isUnder_44 rfl ?_)))))))) (fun c4 => (FM_isUnder_7 (FM_isUnder_8 (fun c8 => (FM_isUnder_34 (FM_isUnder_35 (FM_isUnder_36 (fun c36 => (FM_isUnder_43 (FM_isUnder_44 rfl ?_))) (fun c36 => (FM_isUnder_39 (FM_isUnder_40 (FM_isUnder_44 rfl ?_)))))))) (fun c8 => (FM_isUnder_11 (FM_isUnder_12 (FM_isUnder_13 (fun c13 => (FM_isUnder_20 (FM_isUnder_21 (FM_isUnder_22 (fun c22 => (FM_isUnder_29 (FM_isUnder_30 (FM_isUnder_31 ?_)))) (fun c22 => (FM_isUnder_25 (FM_isUnder_26 (FM_isUnder_30 (FM_isUnder_31 ?_))))))))) (fun c13 => (FM_isUnder_16 (FM_isUnder_17 (FM_isUnder_30 (FM_isUnder_31 ?_)))))))))))))))
  · exact absurd c4 c36
  · have nj : j = 5 := (nI_inj c4 (by omega) (by omega)).symm
    exact t (by rw [nj]; rfl)
  · exact absurd c8 (by decide)
  · exact absurd c8 (by decide)
  · exact absurd rfl c22
  ·
    have nj : ¬ j = 5 := fun z => c4 (by rw [z])
    refine UM_4 hj (fun z => t ?_) (fun z => f ?_)
    · rw [← z]; simp [uB, nj]
    · rw [← z]; simp [uB, nj]
  · exact absurd c13 (by decide)
theorem FM_isUnder_c {K : Nat} {k1 : Int32} (hK : K < 6) (hj : j < 6) (e1 : k0 = nI K) (e2 : k1 = nI j) (t : uB K j = true → Q 1 h) (f : uB K j = false → Q 0 h) : E X d FM_isUnder 0 [.ref 57, .int k0, .int k1, U0] [] h Q := by
  subst e1; subst e2
  refine (FM_isUnder_0 (FM_isUnder_1 ?_))
  match K, hK, t, f with
  | 0, _, t, f => exact UM_0 hj t f
  | 1, _, t, f => exact UM_1 hj t f
  | 2, _, t, f => exact UM_2 hj t f
  | 3, _, t, f => exact UM_3 hj t f
  | 4, _, t, f => exact UM_4 hj t f
  | 5, _, t, f => exact UM_5 hj t f
  | _ + 6, z, _, _ => exact absurd z (by omega)
end FG
