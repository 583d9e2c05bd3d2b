section DI
variable {X : SX} {d D : Nat} {h : HH} {Q : Int32 → HH → Prop}
theorem La_add_l {a1 a2 : Int32} (hD : D < 6) (k : E X (d + 2) La_add 37 [.ref 2, .int a1, .int a2, .int (nI D), .int 15] [] (fR h 3 (D * 15) 15 0) Q) : ∀ (n i : Nat), i + n = 15 → E X (d + 2) La_add 15 [.ref 2, .int a1, .int a2, .int (nI D), .int (nI i)] [] (fR h 3 (D * 15) i 0) Q := by
  intro n
  induction n with
  | zero =>
    intro i hi
    obtain rfl : i = 15 := by omega
    refine (La_add_15 (La_add_17 (La_add_19 (fun c19 => ?_) (fun c19 => ?_))))
    · exact k
    · exact absurd (Int32.le_refl _) c19
  | succ n ih =>
    intro i hi
    refine (La_add_15 (La_add_17 (La_add_19 (fun c19 => ?_) (fun c19 => (La_add_22 (La_add_23 (La_add_24 (La_add_26 (La_add_27 isLa2 (Nat.le_of_ble_eq_true rfl) (La_put_e isLa2 (by first | assumption | exact rfl) (by first | assumption | exact rfl) (by omega) (by omega) (La_add_30 (La_add_31 (La_add_34 ?_)))))))))))))
    · exact absurd ((leN (show (15 : Int32) = nI 15 from rfl) rfl (by omega) (by omega)).mp c19) (by omega)
    · rw [show pI (fR h 3 (D * 15) i 0) (2 + 1) (D * 15 + i) 0 = fR h 3 (D * 15) (i + 1) 0 from fR_s, show nI i + 1 = nI (i + 1) from nI_1 i]
      exact ih (i + 1) (by omega)
theorem La_add_c {a1 a2 : Int32} (hc : h.1 2 1 = nI D) (hD : D < 6) (k : Q (nI D) (pI (pI (fR (pI h 2 1 (nI (D + 1))) 3 (D * 15) 15 0) 3 (D * 15 + 0) a1) 3 (D * 15 + 1) a2)) : E X (d + 2) La_add 0 [.ref 2, .int a1, .int a2, U0, U0] [] h Q := by
  refine (La_add_0 (La_add_1 (La_add_2 isLa2 (La_add_5 (La_add_6 (La_add_7 (La_add_8 isLa2 (La_add_11 (La_add_12 (La_add_13 ?_))))))))))
  rw [hc, show nI D + 1 = nI (D + 1) from nI_1 D]
  have := La_add_l (X := X) (d := d) (h := pI h 2 1 (nI (D + 1))) (Q := Q) (a1 := a1) (a2 := a2) hD ?_ 15 0 rfl
  · rw [fR_0] at this
    exact this
  · refine (La_add_37 (La_add_38 (La_add_39 (La_add_40 (La_add_41 isLa2 (Nat.le_of_ble_eq_true rfl) (La_put_e isLa2 (by first | assumption | exact rfl) (show (0 : Int32) = nI 0 from rfl) (by omega) (by omega) (La_add_44 (La_add_45 (La_add_46 (La_add_47 (La_add_48 (La_add_49 isLa2 (Nat.le_of_ble_eq_true rfl) (La_put_e isLa2 (by first | assumption | exact rfl) (show (1 : Int32) = nI 1 from rfl) (by omega) (by omega) (La_add_52 (La_add_53 (La_add_54 ?_))))))))))))))))
    exact k
end DI
