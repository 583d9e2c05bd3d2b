theorem st_step {f g : Nat → Int32} {b i k : Nat} : (if k = b + i then g i else if b ≤ k ∧ k < b + i then g (k - b) else f k) = if b ≤ k ∧ k < b + (i + 1) then g (k - b) else f k := by
  by_cases z : k = b + i
  · rw [if_pos z, if_pos (by omega)]; congr 1; omega
  · rw [if_neg z]
    by_cases y : b ≤ k ∧ k < b + i
    · rw [if_pos y, if_pos (by omega)]
    · rw [if_neg y, if_neg (by omega)]
theorem st_s2 {f g : Nat → Int32} {i k : Nat} : (if k = i then g i else if k < i then g k else f k) = if k < i + 1 then g k else f k := by
  by_cases z : k = i
  · rw [if_pos z, if_pos (by omega), z]
  · rw [if_neg z]
    by_cases y : k < i
    · rw [if_pos y, if_pos (by omega)]
    · rw [if_neg y, if_neg (by omega)]
def kp1 (h H : HH) (w i : Nat) : Prop := (∀ r, r ≠ 92 → r ≠ 93 → r ≠ 96 → H.1 r = h.1 r) ∧ (∀ k, H.1 92 k = if 6 * w ≤ k ∧ k < 6 * w + i then h.1 58 (k - 6 * w) else h.1 92 k) ∧ (∀ k, H.1 93 k = if 6 * w ≤ k ∧ k < 6 * w + i then h.1 59 (k - 6 * w) else h.1 93 k) ∧ (∀ k, H.1 96 k = if 6 * w ≤ k ∧ k < 6 * w + i then h.1 62 (k - 6 * w) else h.1 96 k)
def kp2 (h H : HH) (w i : Nat) : Prop := (∀ r, r ≠ 94 → r ≠ 95 → r ≠ 97 → r ≠ 98 → H.1 r = h.1 r) ∧ (∀ k, H.1 94 k = if 18 * w ≤ k ∧ k < 18 * w + i then h.1 60 (k - 18 * w) else h.1 94 k) ∧ (∀ k, H.1 95 k = if 18 * w ≤ k ∧ k < 18 * w + i then h.1 61 (k - 18 * w) else h.1 95 k) ∧ (∀ k, H.1 97 k = if 18 * w ≤ k ∧ k < 18 * w + i then h.1 63 (k - 18 * w) else h.1 97 k) ∧ (∀ k, H.1 98 k = if 18 * w ≤ k ∧ k < 18 * w + i then h.1 64 (k - 18 * w) else h.1 98 k)
def lyA (h H : HH) (w i : Nat) : Prop := (∀ r, r ≠ 58 → r ≠ 59 → r ≠ 62 → H.1 r = h.1 r) ∧ (∀ k, H.1 58 k = if k < i then h.1 92 (6 * w + k) else h.1 58 k) ∧ (∀ k, H.1 59 k = if k < i then h.1 93 (6 * w + k) else h.1 59 k) ∧ (∀ k, H.1 62 k = if k < i then h.1 96 (6 * w + k) else h.1 62 k)
def lyB (h H : HH) (w i : Nat) : Prop := (∀ r, r ≠ 60 → r ≠ 61 → r ≠ 63 → r ≠ 64 → H.1 r = h.1 r) ∧ (∀ k, H.1 60 k = if k < i then h.1 94 (18 * w + k) else h.1 60 k) ∧ (∀ k, H.1 61 k = if k < i then h.1 95 (18 * w + k) else h.1 61 k) ∧ (∀ k, H.1 63 k = if k < i then h.1 97 (18 * w + k) else h.1 63 k) ∧ (∀ k, H.1 64 k = if k < i then h.1 98 (18 * w + k) else h.1 64 k)
section KE
variable {X : SX} {d w : Nat} {h : HH} {Q : Int32 → HH → Prop}
theorem FM_keep_kp1 (hw : w ≤ 1) (K : ∀ H, kp1 h H w 6 → E X d FM_keep 65 [.ref 57, .int (nI w), .int (nI 6)] [] H Q) : ∀ (n i : Nat) (H : HH), i + n = 6 → kp1 h H w i → E X d FM_keep 2 [.ref 57, .int (nI w), .int (nI i)] [] H Q := by
  intro n
  induction n with
  | zero =>
    intro i H hi hH
    obtain rfl : i = 6 := by omega
    refine (FM_keep_2 (FM_keep_3 (FM_keep_5 (fun c5 => ?_) (fun c5 => ?_))))
    · exact K H hH
    · exact absurd (Int32.le_refl _) c5
  | succ n ih =>
    intro i H hi hH
    refine (FM_keep_2 (FM_keep_3 (FM_keep_5 (fun c5 => ?_) (fun c5 => (FM_keep_8 (FM_keep_9 (FM_keep_12 (FM_keep_14 (FM_keep_15 (FM_keep_16 (FM_keep_17 (FM_keep_18 (FM_keep_19 (FM_keep_22 (FM_keep_23n (by first | assumption | exact rfl) (by omega) (FM_keep_24n (nI_addE (nI_mulE (show (6 : Int32) = nI 6 from rfl) (by first | assumption | exact rfl)) (by first | assumption | exact rfl)) (by omega) (FM_keep_25 (FM_keep_26 (FM_keep_29 (FM_keep_31 (FM_keep_32 (FM_keep_33 (FM_keep_34 (FM_keep_35 (FM_keep_36 (FM_keep_39 (FM_keep_40n (by first | assumption | exact rfl) (by omega) (FM_keep_41n (nI_addE (nI_mulE (show (6 : Int32) = nI 6 from rfl) (by first | assumption | exact rfl)) (by first | assumption | exact rfl)) (by omega) (FM_keep_42 (FM_keep_43 (FM_keep_46 (FM_keep_48 (FM_keep_49 (FM_keep_50 (FM_keep_51 (FM_keep_52 (FM_keep_53 (FM_keep_56 (FM_keep_57n (by first | assumption | exact rfl) (by omega) (FM_keep_58n (nI_addE (nI_mulE (show (6 : Int32) = nI 6 from rfl) (by first | assumption | exact rfl)) (by first | assumption | exact rfl)) (by omega) (FM_keep_59 (FM_keep_62 ?_))))))))))))))))))))))))))))))))))))))))))
    · exact absurd ((leN (show (6 : Int32) = nI 6 from rfl) rfl (by omega) (by omega)).mp c5) (by omega)
    · rw [nI_1]
      refine ih (i + 1) _ (by omega) ?_
      obtain ⟨f, e0, e1, e2⟩ := hH
      refine ⟨fun r r0 r1 r2 => ?_, fun k => ?_, fun k => ?_, fun k => ?_⟩
      · simp only [pI_r r2, pI_r r1, pI_r r0]
        exact f r r0 r1 r2
      · simp only [pI_r (show 92 ≠ 96 by omega), pI_r (show 92 ≠ 93 by omega)]
        simp only [pI1, true_and]
        rw [e0, f 58 (by omega) (by omega) (by omega)]
        exact st_step
      · simp only [pI_r (show 93 ≠ 96 by omega)]
        simp only [pI1, true_and]
        simp only [show ¬ (59 = 92) by omega, show ¬ (59 = 92) by omega, show ¬ (93 = 92) by omega, false_and, if_false]
        rw [e1, f 59 (by omega) (by omega) (by omega)]
        exact st_step
      · simp only [pI1, true_and]
        simp only [show ¬ (62 = 92) by omega, show ¬ (62 = 92) by omega, show ¬ (96 = 92) by omega, show ¬ (62 = 93) by omega, show ¬ (96 = 93) by omega, false_and, if_false]
        rw [e2, f 62 (by omega) (by omega) (by omega)]
        exact st_step
theorem FM_keep_kp2 (hw : w ≤ 1) (K : ∀ H, kp2 h H w 18 → E X d FM_keep 147 [.ref 57, .int (nI w), .int (nI 18)] [] H Q) : ∀ (n i : Nat) (H : HH), i + n = 18 → kp2 h H w i → E X d FM_keep 67 [.ref 57, .int (nI w), .int (nI i)] [] H Q := by
  intro n
  induction n with
  | zero =>
    intro i H hi hH
    obtain rfl : i = 18 := by omega
    refine (FM_keep_67 (FM_keep_68 (FM_keep_70 (fun c70 => ?_) (fun c70 => ?_))))
    · exact K H hH
    · exact absurd (Int32.le_refl _) c70
  | succ n ih =>
    intro i H hi hH
    refine (FM_keep_67 (FM_keep_68 (FM_keep_70 (fun c70 => ?_) (fun c70 => (FM_keep_73 (FM_keep_74 (FM_keep_77 (FM_keep_79 (FM_keep_80 (FM_keep_81 (FM_keep_82 (FM_keep_83 (FM_keep_84 (FM_keep_87 (FM_keep_88n (by first | assumption | exact rfl) (by omega) (FM_keep_89n (nI_addE (nI_mulE (show (18 : Int32) = nI 18 from rfl) (by first | assumption | exact rfl)) (by first | assumption | exact rfl)) (by omega) (FM_keep_90 (FM_keep_91 (FM_keep_94 (FM_keep_96 (FM_keep_97 (FM_keep_98 (FM_keep_99 (FM_keep_100 (FM_keep_101 (FM_keep_104 (FM_keep_105n (by first | assumption | exact rfl) (by omega) (FM_keep_106n (nI_addE (nI_mulE (show (18 : Int32) = nI 18 from rfl) (by first | assumption | exact rfl)) (by first | assumption | exact rfl)) (by omega) (FM_keep_107 (FM_keep_108 (FM_keep_111 (FM_keep_113 (FM_keep_114 (FM_keep_115 (FM_keep_116 (FM_keep_117 (FM_keep_118 (FM_keep_121 (FM_keep_122n (by first | assumption | exact rfl) (by omega) (FM_keep_123n (nI_addE (nI_mulE (show (18 : Int32) = nI 18 from rfl) (by first | assumption | exact rfl)) (by first | assumption | exact rfl)) (by omega) (FM_keep_124 (FM_keep_125 (FM_keep_128 (FM_keep_130 (FM_keep_131 (FM_keep_132 (FM_keep_133 (FM_keep_134 (FM_keep_135 (FM_keep_138 (FM_keep_139n (by first | assumption | exact rfl) (by omega) (FM_keep_140n (nI_addE (nI_mulE (show (18 : Int32) = nI 18 from rfl) (by first | assumption | exact rfl)) (by first | assumption | exact rfl)) (by omega) (FM_keep_141 (FM_keep_144 ?_))))))))))))))))))))))))))))))))))))))))))))))))))))))
    · exact absurd ((leN (show (18 : Int32) = nI 18 from rfl) rfl (by omega) (by omega)).mp c70) (by omega)
    · rw [nI_1]
      refine ih (i + 1) _ (by omega) ?_
      obtain ⟨f, e0, e1, e2, e3⟩ := hH
      refine ⟨fun r r0 r1 r2 r3 => ?_, fun k => ?_, fun k => ?_, fun k => ?_, fun k => ?_⟩
      · simp only [pI_r r3, pI_r r2, pI_r r1, pI_r r0]
        exact f r r0 r1 r2 r3
      · simp only [pI_r (show 94 ≠ 98 by omega), pI_r (show 94 ≠ 97 by omega), pI_r (show 94 ≠ 95 by omega)]
        simp only [pI1, true_and]
        rw [e0, f 60 (by omega) (by omega) (by omega) (by omega)]
        exact st_step
      · simp only [pI_r (show 95 ≠ 98 by omega), pI_r (show 95 ≠ 97 by omega)]
        simp only [pI1, true_and]
        simp only [show ¬ (61 = 94) by omega, show ¬ (61 = 94) by omega, show ¬ (95 = 94) by omega, false_and, if_false]
        rw [e1, f 61 (by omega) (by omega) (by omega) (by omega)]
        exact st_step
      · simp only [pI_r (show 97 ≠ 98 by omega)]
        simp only [pI1, true_and]
        simp only [show ¬ (63 = 94) by omega, show ¬ (63 = 94) by omega, show ¬ (97 = 94) by omega, show ¬ (63 = 95) by omega, show ¬ (97 = 95) by omega, false_and, if_false]
        rw [e2, f 63 (by omega) (by omega) (by omega) (by omega)]
        exact st_step
      · simp only [pI1, true_and]
        simp only [show ¬ (64 = 94) by omega, show ¬ (64 = 94) by omega, show ¬ (98 = 94) by omega, show ¬ (64 = 95) by omega, show ¬ (98 = 95) by omega, show ¬ (64 = 97) by omega, show ¬ (98 = 97) by omega, false_and, if_false]
        rw [e3, f 64 (by omega) (by omega) (by omega) (by omega)]
        exact st_step
theorem FM_lay_lyA (hw : w ≤ 1) (K : ∀ H, lyA h H w 6 → E X d FM_lay 65 [.ref 57, .int (nI w), .int (nI 6)] [] H Q) : ∀ (n i : Nat) (H : HH), i + n = 6 → lyA h H w i → E X d FM_lay 2 [.ref 57, .int (nI w), .int (nI i)] [] H Q := by
  intro n
  induction n with
  | zero =>
    intro i H hi hH
    obtain rfl : i = 6 := by omega
    refine (FM_lay_2 (FM_lay_3 (FM_lay_5 (fun c5 => ?_) (fun c5 => ?_))))
    · exact K H hH
    · exact absurd (Int32.le_refl _) c5
  | succ n ih =>
    intro i H hi hH
    refine (FM_lay_2 (FM_lay_3 (FM_lay_5 (fun c5 => ?_) (fun c5 => (FM_lay_8 (FM_lay_9 (FM_lay_12 (FM_lay_13 (FM_lay_14 (FM_lay_17 (FM_lay_19 (FM_lay_20 (FM_lay_21 (FM_lay_22 (FM_lay_23n (nI_addE (nI_mulE (show (6 : Int32) = nI 6 from rfl) (by first | assumption | exact rfl)) (by first | assumption | exact rfl)) (by omega) (FM_lay_24n (by first | assumption | exact rfl) (by omega) (FM_lay_25 (FM_lay_26 (FM_lay_29 (FM_lay_30 (FM_lay_31 (FM_lay_34 (FM_lay_36 (FM_lay_37 (FM_lay_38 (FM_lay_39 (FM_lay_40n (nI_addE (nI_mulE (show (6 : Int32) = nI 6 from rfl) (by first | assumption | exact rfl)) (by first | assumption | exact rfl)) (by omega) (FM_lay_41n (by first | assumption | exact rfl) (by omega) (FM_lay_42 (FM_lay_43 (FM_lay_46 (FM_lay_47 (FM_lay_48 (FM_lay_51 (FM_lay_53 (FM_lay_54 (FM_lay_55 (FM_lay_56 (FM_lay_57n (nI_addE (nI_mulE (show (6 : Int32) = nI 6 from rfl) (by first | assumption | exact rfl)) (by first | assumption | exact rfl)) (by omega) (FM_lay_58n (by first | assumption | exact rfl) (by omega) (FM_lay_59 (FM_lay_62 ?_))))))))))))))))))))))))))))))))))))))))))
    · exact absurd ((leN (show (6 : Int32) = nI 6 from rfl) rfl (by omega) (by omega)).mp c5) (by omega)
    · rw [nI_1]
      refine ih (i + 1) _ (by omega) ?_
      obtain ⟨f, e0, e1, e2⟩ := hH
      refine ⟨fun r r0 r1 r2 => ?_, fun k => ?_, fun k => ?_, fun k => ?_⟩
      · simp only [pI_r r2, pI_r r1, pI_r r0]
        exact f r r0 r1 r2
      · simp only [pI_r (show 58 ≠ 62 by omega), pI_r (show 58 ≠ 59 by omega)]
        simp only [pI1, true_and]
        rw [e0, f 92 (by omega) (by omega) (by omega)]
        exact st_s2 (g := fun k => h.1 92 (6 * w + k))
      · simp only [pI_r (show 59 ≠ 62 by omega)]
        simp only [pI1, true_and]
        simp only [show ¬ (93 = 58) by omega, show ¬ (93 = 58) by omega, show ¬ (59 = 58) by omega, false_and, if_false]
        rw [e1, f 93 (by omega) (by omega) (by omega)]
        exact st_s2 (g := fun k => h.1 93 (6 * w + k))
      · simp only [pI1, true_and]
        simp only [show ¬ (96 = 58) by omega, show ¬ (96 = 58) by omega, show ¬ (62 = 58) by omega, show ¬ (96 = 59) by omega, show ¬ (62 = 59) by omega, false_and, if_false]
        rw [e2, f 96 (by omega) (by omega) (by omega)]
        exact st_s2 (g := fun k => h.1 96 (6 * w + k))
theorem FM_lay_lyB (hw : w ≤ 1) (K : ∀ H, lyB h H w 18 → E X d FM_lay 147 [.ref 57, .int (nI w), .int (nI 18)] [] H Q) : ∀ (n i : Nat) (H : HH), i + n = 18 → lyB h H w i → E X d FM_lay 67 [.ref 57, .int (nI w), .int (nI i)] [] H Q := by
  intro n
  induction n with
  | zero =>
    intro i H hi hH
    obtain rfl : i = 18 := by omega
    refine (FM_lay_67 (FM_lay_68 (FM_lay_70 (fun c70 => ?_) (fun c70 => ?_))))
    · exact K H hH
    · exact absurd (Int32.le_refl _) c70
  | succ n ih =>
    intro i H hi hH
    refine (FM_lay_67 (FM_lay_68 (FM_lay_70 (fun c70 => ?_) (fun c70 => (FM_lay_73 (FM_lay_74 (FM_lay_77 (FM_lay_78 (FM_lay_79 (FM_lay_82 (FM_lay_84 (FM_lay_85 (FM_lay_86 (FM_lay_87 (FM_lay_88n (nI_addE (nI_mulE (show (18 : Int32) = nI 18 from rfl) (by first | assumption | exact rfl)) (by first | assumption | exact rfl)) (by omega) (FM_lay_89n (by first | assumption | exact rfl) (by omega) (FM_lay_90 (FM_lay_91 (FM_lay_94 (FM_lay_95 (FM_lay_96 (FM_lay_99 (FM_lay_101 (FM_lay_102 (FM_lay_103 (FM_lay_104 (FM_lay_105n (nI_addE (nI_mulE (show (18 : Int32) = nI 18 from rfl) (by first | assumption | exact rfl)) (by first | assumption | exact rfl)) (by omega) (FM_lay_106n (by first | assumption | exact rfl) (by omega) (FM_lay_107 (FM_lay_108 (FM_lay_111 (FM_lay_112 (FM_lay_113 (FM_lay_116 (FM_lay_118 (FM_lay_119 (FM_lay_120 (FM_lay_121 (FM_lay_122n (nI_addE (nI_mulE (show (18 : Int32) = nI 18 from rfl) (by first | assumption | exact rfl)) (by first | assumption | exact rfl)) (by omega) (FM_lay_123n (by first | assumption | exact rfl) (by omega) (FM_lay_124 (FM_lay_125 (FM_lay_128 (FM_lay_129 (FM_lay_130 (FM_lay_133 (FM_lay_135 (FM_lay_136 (FM_lay_137 (FM_lay_138 (FM_lay_139n (nI_addE (nI_mulE (show (18 : Int32) = nI 18 from rfl) (by first | assumption | exact rfl)) (by first | assumption | exact rfl)) (by omega) (FM_lay_140n (by first | assumption | exact rfl) (by omega) (FM_lay_141 (FM_lay_144 ?_))))))))))))))))))))))))))))))))))))))))))))))))))))))
    · exact absurd ((leN (show (18 : Int32) = nI 18 from rfl) rfl (by omega) (by omega)).mp c70) (by omega)
    · rw [nI_1]
      refine ih (i + 1) _ (by omega) ?_
      obtain ⟨f, e0, e1, e2, e3⟩ := hH
      refine ⟨fun r r0 r1 r2 r3 => ?_, fun k => ?_, fun k => ?_, fun k => ?_, fun k => ?_⟩
      · simp only [pI_r r3, pI_r r2, pI_r r1, pI_r r0]
        exact f r r0 r1 r2 r3
      · simp only [pI_r (show 60 ≠ 64 by omega), pI_r (show 60 ≠ 63 by omega), pI_r (show 60 ≠ 61 by omega)]
        simp only [pI1, true_and]
        rw [e0, f 94 (by omega) (by omega) (by omega) (by omega)]
        exact st_s2 (g := fun k => h.1 94 (18 * w + k))
      · simp only [pI_r (show 61 ≠ 64 by omega), pI_r (show 61 ≠ 63 by omega)]
        simp only [pI1, true_and]
        simp only [show ¬ (95 = 60) by omega, show ¬ (95 = 60) by omega, show ¬ (61 = 60) by omega, false_and, if_false]
        rw [e1, f 95 (by omega) (by omega) (by omega) (by omega)]
        exact st_s2 (g := fun k => h.1 95 (18 * w + k))
      · simp only [pI_r (show 63 ≠ 64 by omega)]
        simp only [pI1, true_and]
        simp only [show ¬ (97 = 60) by omega, show ¬ (97 = 60) by omega, show ¬ (63 = 60) by omega, show ¬ (97 = 61) by omega, show ¬ (63 = 61) by omega, false_and, if_false]
        rw [e2, f 97 (by omega) (by omega) (by omega) (by omega)]
        exact st_s2 (g := fun k => h.1 97 (18 * w + k))
      · simp only [pI1, true_and]
        simp only [show ¬ (98 = 60) by omega, show ¬ (98 = 60) by omega, show ¬ (64 = 60) by omega, show ¬ (98 = 61) by omega, show ¬ (64 = 61) by omega, show ¬ (98 = 63) by omega, show ¬ (64 = 63) by omega, false_and, if_false]
        rw [e3, f 98 (by omega) (by omega) (by omega) (by omega)]
        exact st_s2 (g := fun k => h.1 98 (18 * w + k))
end KE
