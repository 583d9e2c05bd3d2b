/-- n places of row i from b on become v -/
def fR (h : HH) (i b n : Nat) (v : Int32) : HH := (fun x y => if x = i ∧ b ≤ y ∧ y < b + n then v else h.1 x y, h.2)
theorem fR_r {h : HH} {i b n a : Nat} {v : Int32} (hn : a ≠ i) : (fR h i b n v).1 a = h.1 a := by funext y; simp [fR, hn]
theorem fR1 (h : HH) (i b n : Nat) (v : Int32) (x y : Nat) : (fR h i b n v).1 x y = if x = i ∧ b ≤ y ∧ y < b + n then v else h.1 x y := rfl
theorem fR_0 {h : HH} {i b : Nat} {v : Int32} : fR h i b 0 v = h := by
  refine Prod.ext ?_ rfl
  funext x y
  simp only [fR1]
  rw [if_neg (by omega)]
theorem fR_s {h : HH} {i b n : Nat} {v : Int32} : pI (fR h i b n v) i (b + n) v = fR h i b (n + 1) v := by
  refine Prod.ext ?_ rfl
  funext x y
  simp only [fR1, pI1]
  by_cases z : x = i ∧ y = b + n
  · rw [if_pos z, if_pos (by omega)]
  · rw [if_neg z]
    by_cases z2 : x = i ∧ b ≤ y ∧ y < b + n
    · rw [if_pos z2, if_pos (by omega)]
    · rw [if_neg z2, if_neg (by omega)]
section SH
variable {X : SX} {d : Nat} {h : HH} {Q : Int32 → HH → Prop}
theorem FM_least_c {a b : Int32} (t : a < b → Q a h) (f : ¬ a < b → Q b h) : E X d FM_least 0 [.ref 57, .int a, .int b] [] h Q := by
  refine (FM_least_0 (FM_least_1 (FM_least_2 (fun c2 => (FM_least_9 (FM_least_10 ?_))) (fun c2 => (FM_least_5 (FM_least_6 (FM_least_10 ?_)))))))
  · exact f (Int32.not_lt.mpr c2)
  · exact t (Int32.not_le.mp c2)
def putv (s v : Int32) : Int32 := if s = 0 then v.toInt8.toInt32 else v
theorem Sh_put_c {s i : Nat} {x z v : Int32} (e1 : x = nI s) (e2 : z = nI i) (hs : s < 4) (hi : i < 40) (k : Q 0 (pI h 56 (s * 40 + i) (putv (h.1 54 s) v))) : E X d Sh_put 0 [.ref 53, .int x, .int z, .int v] [] h Q := by
  refine (Sh_put_0 (Sh_put_1 (Sh_put_4 (Sh_put_5 (Sh_put_7 (Sh_put_8 (Sh_put_9 (Sh_put_10 (Sh_put_11 (Sh_put_14 (Sh_put_15n (by first | assumption | exact rfl) (by omega) (Sh_put_16 (fun c16 => (Sh_put_24 (Sh_put_25n (nI_addE (nI_mulE (by first | assumption | exact rfl) (show (40 : Int32) = nI 40 from rfl)) (by first | assumption | exact rfl)) (by omega) (Sh_put_26 ?_)))) (fun c16 => (Sh_put_19 (Sh_put_20 (Sh_put_21 (Sh_put_25n (nI_addE (nI_mulE (by first | assumption | exact rfl) (show (40 : Int32) = nI 40 from rfl)) (by first | assumption | exact rfl)) (by omega) (Sh_put_26 ?_))))))))))))))))))
  · rw [putv, if_neg c16] at k; exact k
  · rw [putv, if_pos c16] at k; exact k
theorem putv_0 (s : Int32) : putv s 0 = 0 := by
  unfold putv; split <;> rfl
theorem Sh_lay_l {s : Nat} {a2 a3 : Int32} (hs : s < 4) (k : Q 0 (fR h 56 (s * 40) 40 0)) : ∀ (n i : Nat), i + n = 40 → E X (d + 1) Sh_lay 17 [.ref 53, .int (nI s), .int a2, .int a3, .int (nI i)] [] (fR h 56 (s * 40) i 0) Q := by
  intro n
  induction n with
  | zero =>
    intro i hi
    obtain rfl : i = 40 := by omega
    refine (Sh_lay_17 (Sh_lay_19 (Sh_lay_21 (fun c21 => (Sh_lay_38 ?_)) (fun c21 => ?_))))
    · exact k
    · exact absurd (Int32.le_refl _) c21
  | succ n ih =>
    intro i hi
    refine (Sh_lay_17 (Sh_lay_19 (Sh_lay_21 (fun c21 => ?_) (fun c21 => (Sh_lay_24 (Sh_lay_25 (Sh_lay_26 (Sh_lay_28 (Sh_lay_29 (Nat.le_of_ble_eq_true rfl) (Sh_put_c (by first | assumption | exact rfl) (by first | assumption | exact rfl) (by omega) (by omega) (Sh_lay_32 (Sh_lay_35 ?_))))))))))))
    · exact absurd ((leN (show (40 : Int32) = nI 40 from rfl) rfl (by omega) (by omega)).mp c21) (by omega)
    · rw [putv_0, fR_s, show nI i + 1 = nI (i + 1) from nI_1 i]
      exact ih (i + 1) (by omega)
theorem Sh_lay_c {s : Nat} {x a2 a3 : Int32} (e1 : x = nI s) (hs : s < 4) (k : Q 0 (fR (pI (pI h 54 s a2) 55 s a3) 56 (s * 40) 40 0)) : E X (d + 1) Sh_lay 0 [.ref 53, .int x, .int a2, .int a3, U0] [] h Q := by
  subst e1
  refine (Sh_lay_0 (Sh_lay_1 (Sh_lay_4 (Sh_lay_5 (Sh_lay_6n (by first | assumption | exact rfl) (by omega) (Sh_lay_7 (Sh_lay_8 (Sh_lay_11 (Sh_lay_12 (Sh_lay_13n (by first | assumption | exact rfl) (by omega) (Sh_lay_14 (Sh_lay_15 ?_))))))))))))
  have := Sh_lay_l (X := X) (d := d) (h := pI (pI h 54 s a2) 55 s a3) (Q := Q) (a2 := a2) (a3 := a3) hs k 40 0 rfl
  rw [fR_0] at this
  exact this
theorem FM_sheet_l {s : Nat} {a2 a3 : Int32} (hs : s < 4) (k : Q 1 (pI (fR h 106 (40 * s) 40 0) 57 0 0)) : ∀ (n i : Nat), i + n = 40 → E X (d + 1) FM_sheet 65 [.ref 57, .int (nI s), .int a2, .int a3, .int (nI i)] [] (fR h 106 (40 * s) i 0) Q := by
  intro n
  induction n with
  | zero =>
    intro i hi
    obtain rfl : i = 40 := by omega
    refine (FM_sheet_65 (FM_sheet_67 (FM_sheet_69 (fun c69 => (FM_sheet_91 (FM_sheet_92 (FM_sheet_93 (Nat.le_of_ble_eq_true rfl) (FM_done_c (FM_sheet_96 ?_)))))) (fun c69 => ?_))))
    · exact k
    · exact absurd (Int32.le_refl _) c69
  | succ n ih =>
    intro i hi
    refine (FM_sheet_65 (FM_sheet_67 (FM_sheet_69 (fun c69 => ?_) (fun c69 => (FM_sheet_72 (FM_sheet_73 (FM_sheet_76 (FM_sheet_78 (FM_sheet_79 (FM_sheet_80 (FM_sheet_82 (FM_sheet_83 (FM_sheet_84n (nI_addE (nI_mulE (show (40 : Int32) = nI 40 from rfl) (by first | assumption | exact rfl)) (by first | assumption | exact rfl)) (by omega) (FM_sheet_85 (FM_sheet_88 ?_)))))))))))))))
    · exact absurd ((leN (show (40 : Int32) = nI 40 from rfl) rfl (by omega) (by omega)).mp c69) (by omega)
    · rw [fR_s, show nI i + 1 = nI (i + 1) from nI_1 i]
      exact ih (i + 1) (by omega)
end SH
