section DI
variable {X : SX} {d D : Nat} {h : HH} {Q : Int32 → HH → Prop}
theorem La_add_l {a1 a2 : Int32} (hD : D < 6) (k : E X (d + 2) La_add 37 [.ref 2, .int a1, .int a2, .int (nI D), .int 15] [] (fR h 3 (D * 15) 15 0) Q) : ∀ (n i : Nat), i + n = 15 → E X (d + 2) La_add 15 [.ref 2, .int a1, .int a2, .int (nI D), .int (nI i)] [] (fR h 3 (D * 15) i 0) Q := by
  intro n
  induction n with
  | zero =>
    intro i hi
    obtain rfl : i = 15 := by omega
    refine (La_add_15 (La_add_17 (La_add_19 (fun c19 => ?_) (fun c19 => ?_))))
    · exact k
    · exact absurd (Int32.le_refl _) c19
  | succ n ih =>
    intro i hi
    refine (La_add_15 (La_add_17 (La_add_19 (fun c19 => ?_) (fun c19 => (La_add_22 (La_add_23 (La_add_24 (La_add_26 (La_add_27 isLa2 (Nat.le_of_ble_eq_true rfl) (La_put_e isLa2 (by first | assumption | exact rfl) (by first | assumption | exact rfl) (by omega) (by omega) (La_add_30 (La_add_31 (La_add_34 ?_)))))))))))))
    · exact absurd ((leN (show (15 : Int32) = nI 15 from rfl) rfl (by omega) (by omega)).mp c19) (by omega)
    · rw [show pI (fR h 3 (D * 15) i 0) (2 + 1) (D * 15 + i) 0 = fR h 3 (D * 15) (i + 1) 0 from fR_s, show nI i + 1 = nI (i + 1) from nI_1 i]
      exact ih (i + 1) (by omega)
theorem La_add_c {a1 a2 : Int32} (hc : h.1 2 1 = nI D) (hD : D < 6) (k : Q (nI D) (pI (pI (fR (pI h 2 1 (nI (D + 1))) 3 (D * 15) 15 0) 3 (D * 15 + 0) a1) 3 (D * 15 + 1) a2)) : E X (d + 2) La_add 0 [.ref 2, .int a1, .int a2, U0, U0] [] h Q := by
  refine (La_add_0 (La_add_1 (La_add_2 isLa2 (La_add_5 (La_add_6 (La_add_7 (La_add_8 isLa2 (La_add_11 (La_add_12 (La_add_13 ?_))))))))))
  rw [hc, show nI D + 1 = nI (D + 1) from nI_1 D]
  have := La_add_l (X := X) (d := d) (h := pI h 2 1 (nI (D + 1))) (Q := Q) (a1 := a1) (a2 := a2) hD ?_ 15 0 rfl
  · rw [fR_0] at this
    exact this
  · refine (La_add_37 (La_add_38 (La_add_39 (La_add_40 (La_add_41 isLa2 (Nat.le_of_ble_eq_true rfl) (La_put_e isLa2 (by first | assumption | exact rfl) (show (0 : Int32) = nI 0 from rfl) (by omega) (by omega) (La_add_44 (La_add_45 (La_add_46 (La_add_47 (La_add_48 (La_add_49 isLa2 (Nat.le_of_ble_eq_true rfl) (La_put_e isLa2 (by first | assumption | exact rfl) (show (1 : Int32) = nI 1 from rfl) (by omega) (by omega) (La_add_52 (La_add_53 (La_add_54 ?_))))))))))))))))
    exact k
theorem FC_district_s {a b : Int32} (hD : h.1 2 1 = nI D) (h6 : D ≤ 6) (t : D < 6 → inI a 0 99999 → inI b 1 99 → Q (nI D) (pI (pI (pI (fR (pI h 2 1 (nI (D + 1))) 3 (D * 15) 15 0) 3 (D * 15 + 0) a) 3 (D * 15 + 1) b) 0 8 0)) (g : inI a 0 99999 ∧ inI b 1 99 → ¬ D < 6 → Q (-1) (pI h 0 8 2)) (f : ¬ (inI a 0 99999 ∧ inI b 1 99) → Q (-1) (pI h 0 8 1)) : E X (d + 4) FC_district 0 [.ref 0, .int a, .int b] [] h Q := by
  refine (FC_district_0 (FC_district_1 (FC_district_2 (FC_district_4 (Nat.le_of_ble_eq_true rfl) (FC_within_c (fun c4 => (FC_district_7 (fun z => absurd z (by decide)) (fun _ => (FC_district_10 (FC_district_11 (FC_district_12 (FC_district_14 (Nat.le_of_ble_eq_true rfl) (FC_within_c (fun c14 => (FC_district_17 (fun _ => (FC_district_26 (FC_district_27 (FC_district_30 (FC_district_33 (FC_district_36 (FC_district_38 (fun c38 => (FC_district_47 (FC_district_48 (FC_district_49 (FC_district_52 (FC_district_55 (FC_district_56 (FC_district_57 (Nat.le_of_ble_eq_true rfl) (La_add_c hD ((ltN hD (show (6 : Int32) = nI 6 from rfl) (by omega) (by omega)).mp (by assumption)) (FC_district_60 (Nat.le_of_ble_eq_true rfl) (FC_done_c (FC_district_63 ?_)))))))))))) (fun c38 => (FC_district_41 (FC_district_42 (FC_district_43 (Nat.le_of_ble_eq_true rfl) (FC_refuse_c (FC_district_46 ?_))))))))))))) (fun z => absurd z (by decide)))) (fun c14 => (FC_district_17 (fun z => absurd z (by decide)) (fun _ => (FC_district_20 (FC_district_21 (FC_district_22 (Nat.le_of_ble_eq_true rfl) (FC_refuse_c (FC_district_25 ?_)))))))))))))))) (fun c4 => (FC_district_7 (fun _ => (FC_district_20 (FC_district_21 (FC_district_22 (Nat.le_of_ble_eq_true rfl) (FC_refuse_c (FC_district_25 ?_)))))) (fun z => absurd z (by decide)))))))))
  · exact t ((ltN hD (show (6 : Int32) = nI 6 from rfl) (by omega) (by omega)).mp c38) c4 c14
  · exact g ⟨c4, c14⟩ (fun z => c38 ((ltN hD (show (6 : Int32) = nI 6 from rfl) (by omega) (by omega)).mpr z))
  all_goals exact f (fun z => by obtain ⟨_, _⟩ := z; contradiction)
def Z4 (h : HH) (b i : Nat) : HH := (fun x y => if (x = 60 ∨ x = 61 ∨ x = 63 ∨ x = 64) ∧ b ≤ y ∧ y < b + i then 0 else h.1 x y, h.2)
theorem Z41 (h : HH) (b i x y : Nat) : (Z4 h b i).1 x y = if (x = 60 ∨ x = 61 ∨ x = 63 ∨ x = 64) ∧ b ≤ y ∧ y < b + i then 0 else h.1 x y := rfl
theorem Z4_0 {b : Nat} : Z4 h b 0 = h := by
  refine Prod.ext ?_ rfl
  funext x y
  simp only [Z41]
  rw [if_neg (by omega)]
theorem Z4_s {b i : Nat} : pI (pI (pI (pI (Z4 h b i) 60 (b + i) 0) 61 (b + i) 0) 63 (b + i) 0) 64 (b + i) 0 = Z4 h b (i + 1) := by
  refine Prod.ext ?_ rfl
  funext x y
  simp only [pI1, Z41]
  repeat' split
  all_goals first | rfl | (exfalso; omega)
theorem FM_district_l {a b : Int32} (hD : D < 6) (k : E X (d + 2) FM_district 120 [.ref 57, .int a, .int b, .int (nI D), .int (nI (3 * D + 3))] [] (Z4 h (3 * D) 3) Q) : ∀ (n i : Nat), i + n = 3 → E X (d + 2) FM_district 72 [.ref 57, .int a, .int b, .int (nI D), .int (nI (3 * D + i))] [] (Z4 h (3 * D) i) Q := by
  intro n
  have e3 : (3 : Int32) * nI D + 3 = nI (3 * D + 3) := nI_addE (nI_mulE (show (3 : Int32) = nI 3 from rfl) rfl) (show (3 : Int32) = nI 3 from rfl)
  induction n with
  | zero =>
    intro i hi
    obtain rfl : i = 3 := by omega
    refine (FM_district_72 (FM_district_74 (FM_district_75 (FM_district_76 (FM_district_77 (FM_district_78 (FM_district_79 (fun c79 => ?_) (fun c79 => ?_))))))))
    · exact k
    · exact absurd (by rw [e3]; exact Int32.le_refl _) c79
  | succ n ih =>
    intro i hi
    refine (FM_district_72 (FM_district_74 (FM_district_75 (FM_district_76 (FM_district_77 (FM_district_78 (FM_district_79 (fun c79 => ?_) (fun c79 => (FM_district_82 (FM_district_83 (FM_district_86 (FM_district_88 (FM_district_89n (by first | assumption | exact rfl) (by omega) (FM_district_90 (FM_district_91 (FM_district_94 (FM_district_96 (FM_district_97n (by first | assumption | exact rfl) (by omega) (FM_district_98 (FM_district_99 (FM_district_102 (FM_district_104 (FM_district_105n (by first | assumption | exact rfl) (by omega) (FM_district_106 (FM_district_107 (FM_district_110 (FM_district_112 (FM_district_113n (by first | assumption | exact rfl) (by omega) (FM_district_114 (FM_district_117 ?_))))))))))))))))))))))))))))))
    · exact absurd ((leN e3 rfl (by omega) (by omega)).mp c79) (by omega)
    · rw [Z4_s, show nI (3 * D + i) + 1 = nI (3 * D + (i + 1)) from nI_1 (3 * D + i)]
      exact ih (i + 1) (by omega)
theorem FM_district_s {a b : Int32} (hD : h.1 57 1 = nI D) (h6 : D ≤ 6) (t : D < 6 → inI a 0 99999 → inI b 1 99 → Q (nI D) (pI (pI (Z4 (pI (pI (pI h 58 D a) 59 D b) 62 D 0) (3 * D) 3) 57 1 (nI (D + 1))) 57 0 0)) (g : inI a 0 99999 ∧ inI b 1 99 → ¬ D < 6 → Q (-1) (pI h 57 0 2)) (f : ¬ (inI a 0 99999 ∧ inI b 1 99) → Q (-1) (pI h 57 0 1)) : E X (d + 4) FM_district 0 [.ref 57, .int a, .int b, U0, U0] [] h Q := by
  refine (FM_district_0 (FM_district_1 (FM_district_2 (FM_district_4 (Nat.le_of_ble_eq_true rfl) (FM_in_c (fun c4 => (FM_district_7 (fun z => absurd z (by decide)) (fun _ => (FM_district_10 (FM_district_11 (FM_district_12 (FM_district_14 (Nat.le_of_ble_eq_true rfl) (FM_in_c (fun c14 => (FM_district_17 (fun _ => (FM_district_26 (FM_district_27 (FM_district_30 (FM_district_32 (fun c32 => ?_) (fun c32 => (FM_district_35 (FM_district_36 (FM_district_37 (Nat.le_of_ble_eq_true rfl) (FM_refused_c (FM_district_40 ?_))))))))))) (fun z => absurd z (by decide)))) (fun c14 => (FM_district_17 (fun z => absurd z (by decide)) (fun _ => (FM_district_20 (FM_district_21 (FM_district_22 (Nat.le_of_ble_eq_true rfl) (FM_refused_c (FM_district_25 ?_)))))))))))))))) (fun c4 => (FM_district_7 (fun _ => (FM_district_20 (FM_district_21 (FM_district_22 (Nat.le_of_ble_eq_true rfl) (FM_refused_c (FM_district_25 ?_)))))) (fun z => absurd z (by decide)))))))))
  · have h5 : ¬ D = 6 := fun z => c32 ((eqN hD (show (6 : Int32) = nI 6 from rfl) (by omega) (by omega)).mpr z)
    have h5 : D < 6 := by omega
    refine (FM_district_41 (FM_district_42 (FM_district_45 ?_)))
    rw [hD]
    refine (FM_district_46 (FM_district_47 (FM_district_50 (FM_district_51 (FM_district_52n (by first | assumption | exact rfl) (by omega) (FM_district_53 (FM_district_54 (FM_district_57 (FM_district_58 (FM_district_59n (by first | assumption | exact rfl) (by omega) (FM_district_60 (FM_district_61 (FM_district_64 (FM_district_65 (FM_district_66n (by first | assumption | exact rfl) (by omega) (FM_district_67 (FM_district_68 (FM_district_69 (FM_district_70 ?_)))))))))))))))))))
    have := FM_district_l (X := X) (d := d + 2) (h := pI (pI (pI h 58 D a) 59 D b) 62 D 0) (Q := Q) (a := a) (b := b) h5 ?_ 3 0 rfl
    · rw [Z4_0] at this
      rw [show (3 : Int32) * nI D = nI (3 * D + 0) from nI_mulE (show (3 : Int32) = nI 3 from rfl) rfl]
      exact this
    · refine (FM_district_120 (FM_district_121 (FM_district_122 (FM_district_125 (FM_district_126 (FM_district_127 (FM_district_130 (FM_district_131 (FM_district_132 (Nat.le_of_ble_eq_true rfl) (FM_done_c (FM_district_135 ?_)))))))))))
      have := t h5 c4 c14
      simpa [pI1, Z41, hD, nI_1] using this
  · exact g ⟨c4, c14⟩ (fun z => absurd ((eqN hD (show (6 : Int32) = nI 6 from rfl) (by omega) (by omega)).mp (by assumption)) (by omega))
  all_goals exact f (fun z => by obtain ⟨_, _⟩ := z; contradiction)
end DI
