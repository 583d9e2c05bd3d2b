def rowc (h H : HH) (b a i : Nat) : Prop := (∀ r, r ≠ b → H.1 r = h.1 r) ∧ ∀ k, H.1 b k = if k < i then h.1 a k else h.1 b k
theorem rowc_0 (h : HH) (b a : Nat) : rowc h h b a 0 := ⟨fun _ _ => rfl, fun k => by rw [if_neg (by omega)]⟩
theorem rowc_s {h H : HH} {b a i : Nat} (hab : a ≠ b) (e : rowc h H b a i) : rowc h (pI H b i (H.1 a i)) b a (i + 1) := by
  refine ⟨fun r hr => by rw [pI_r hr]; exact e.1 r hr, fun k => ?_⟩
  simp only [pI1, true_and]
  rw [e.1 a hab, e.2]
  exact st_s2 (g := h.1 a)
def kpP (h H : HH) (w : Nat) : Prop := (∀ r, r < 92 ∨ 99 < r → H.1 r = h.1 r) ∧
  (∀ y, y < 6 → H.1 92 (6 * w + y) = h.1 58 y ∧ H.1 93 (6 * w + y) = h.1 59 y ∧ H.1 96 (6 * w + y) = h.1 62 y) ∧ (∀ k, k < 6 * w ∨ 6 * w + 6 ≤ k → H.1 92 k = h.1 92 k ∧ H.1 93 k = h.1 93 k ∧ H.1 96 k = h.1 96 k) ∧
  (∀ y, y < 18 → H.1 94 (18 * w + y) = h.1 60 y ∧ H.1 95 (18 * w + y) = h.1 61 y ∧ H.1 97 (18 * w + y) = h.1 63 y ∧ H.1 98 (18 * w + y) = h.1 64 y) ∧ (∀ k, k < 18 * w ∨ 18 * w + 18 ≤ k → H.1 94 k = h.1 94 k ∧ H.1 95 k = h.1 95 k ∧ H.1 97 k = h.1 97 k ∧ H.1 98 k = h.1 98 k) ∧
  (H.1 99 (3 * w) = h.1 57 12 ∧ H.1 99 (3 * w + 1) = h.1 57 13 ∧ H.1 99 (3 * w + 2) = h.1 57 14) ∧ ∀ k, k < 3 * w ∨ 3 * w + 3 ≤ k → H.1 99 k = h.1 99 k
def lyP (h H : HH) (w : Nat) : Prop := (∀ r, r < 57 ∨ 64 < r → H.1 r = h.1 r) ∧
  (∀ y, y < 6 → H.1 58 y = h.1 92 (6 * w + y) ∧ H.1 59 y = h.1 93 (6 * w + y) ∧ H.1 62 y = h.1 96 (6 * w + y)) ∧ (∀ y, y < 18 → H.1 60 y = h.1 94 (18 * w + y) ∧ H.1 61 y = h.1 95 (18 * w + y) ∧ H.1 63 y = h.1 97 (18 * w + y) ∧ H.1 64 y = h.1 98 (18 * w + y)) ∧
  (H.1 57 12 = h.1 99 (3 * w) ∧ H.1 57 13 = h.1 99 (3 * w + 1) ∧ H.1 57 14 = h.1 99 (3 * w + 2)) ∧ ∀ j, j < 12 ∨ 14 < j → H.1 57 j = h.1 57 j
section IM
variable {X : SX} {d w : Nat} {h : HH} {Q : Int32 → HH → Prop} {x : Int32}
set_option maxHeartbeats 1000000 in
theorem FM_keep_c (hw : w ≤ 1) (e : x = nI w) (q : ∀ H, kpP h H w → Q 0 H) : E X d FM_keep 0 [.ref 57, .int x, U0] [] h Q := by
  subst e
  refine (FM_keep_0 (FM_keep_1 ?_))
  refine FM_keep_kp1 hw (h := h) (fun H1 h1 => ?_) 6 0 h (by omega) ⟨fun _ _ _ _ => rfl, fun k => by rw [if_neg (by omega)], fun k => by rw [if_neg (by omega)], fun k => by rw [if_neg (by omega)]⟩
  refine (FM_keep_65 (FM_keep_66 ?_))
  refine FM_keep_kp2 hw (h := H1) (fun H2 h2 => ?_) 18 0 H1 (by omega) ⟨fun _ _ _ _ _ => rfl, fun k => by rw [if_neg (by omega)], fun k => by rw [if_neg (by omega)], fun k => by rw [if_neg (by omega)], fun k => by rw [if_neg (by omega)]⟩
  obtain ⟨f1, a1, a2, a3⟩ := h1
  obtain ⟨f2, b1, b2, b3, b4⟩ := h2
  have e57 : H2.1 57 = h.1 57 := by rw [f2 57 (by omega) (by omega) (by omega) (by omega), f1 57 (by omega) (by omega) (by omega)]
  have e99 : H2.1 99 = h.1 99 := by rw [f2 99 (by omega) (by omega) (by omega) (by omega), f1 99 (by omega) (by omega) (by omega)]
  refine (FM_keep_147 (FM_keep_148 (FM_keep_151 (FM_keep_152 (FM_keep_153 (FM_keep_154 (FM_keep_155 (FM_keep_158n (nI_mulE (show (3 : Int32) = nI 3 from rfl) (by first | assumption | exact rfl)) (by omega) (FM_keep_159 (FM_keep_160 (FM_keep_163 (FM_keep_164 (FM_keep_165 (FM_keep_166 (FM_keep_167 (FM_keep_168 (FM_keep_169 (FM_keep_172n (nI_addE (nI_mulE (show (3 : Int32) = nI 3 from rfl) (by first | assumption | exact rfl)) (show (1 : Int32) = nI 1 from rfl)) (by omega) (FM_keep_173 (FM_keep_174 (FM_keep_177 (FM_keep_178 (FM_keep_179 (FM_keep_180 (FM_keep_181 (FM_keep_182 (FM_keep_183 (FM_keep_186n (nI_addE (nI_mulE (show (3 : Int32) = nI 3 from rfl) (by first | assumption | exact rfl)) (show (2 : Int32) = nI 2 from rfl)) (by omega) (FM_keep_187 ?_)))))))))))))))))))))))))))))
  refine q _ ⟨fun r hr => ?_, fun y hy => ?_, fun k hk => ?_, fun y hy => ?_, fun k hk => ?_, ⟨?_, ?_, ?_⟩, fun k hk => ?_⟩
  · rw [pI_r (by omega), pI_r (by omega), pI_r (by omega), f2 r (by omega) (by omega) (by omega) (by omega), f1 r (by omega) (by omega) (by omega)]
  · simp only [pI_r (show 92 ≠ 99 by omega), pI_r (show 93 ≠ 99 by omega), pI_r (show 96 ≠ 99 by omega)]
    rw [f2 92 (by omega) (by omega) (by omega) (by omega), f2 93 (by omega) (by omega) (by omega) (by omega), f2 96 (by omega) (by omega) (by omega) (by omega), a1, a2, a3, if_pos (by omega), if_pos (by omega), if_pos (by omega), Nat.add_sub_cancel_left]
    exact ⟨rfl, rfl, rfl⟩
  · simp only [pI_r (show 92 ≠ 99 by omega), pI_r (show 93 ≠ 99 by omega), pI_r (show 96 ≠ 99 by omega)]
    rw [f2 92 (by omega) (by omega) (by omega) (by omega), f2 93 (by omega) (by omega) (by omega) (by omega), f2 96 (by omega) (by omega) (by omega) (by omega), a1, a2, a3, if_neg (by omega), if_neg (by omega), if_neg (by omega)]
    exact ⟨rfl, rfl, rfl⟩
  · simp only [pI_r (show 94 ≠ 99 by omega), pI_r (show 95 ≠ 99 by omega), pI_r (show 97 ≠ 99 by omega), pI_r (show 98 ≠ 99 by omega)]
    rw [b1, b2, b3, b4, if_pos (by omega), if_pos (by omega), if_pos (by omega), if_pos (by omega), Nat.add_sub_cancel_left, f1 60 (by omega) (by omega) (by omega), f1 61 (by omega) (by omega) (by omega), f1 63 (by omega) (by omega) (by omega), f1 64 (by omega) (by omega) (by omega)]
    exact ⟨rfl, rfl, rfl, rfl⟩
  · simp only [pI_r (show 94 ≠ 99 by omega), pI_r (show 95 ≠ 99 by omega), pI_r (show 97 ≠ 99 by omega), pI_r (show 98 ≠ 99 by omega)]
    rw [b1, b2, b3, b4, if_neg (by omega), if_neg (by omega), if_neg (by omega), if_neg (by omega), f1 94 (by omega) (by omega) (by omega), f1 95 (by omega) (by omega) (by omega), f1 97 (by omega) (by omega) (by omega), f1 98 (by omega) (by omega) (by omega)]
    exact ⟨rfl, rfl, rfl, rfl⟩
  · simp [pI1, e57]
  · simp [pI1, e57]
  · simp [pI1, e57]
  · simp only [pI1, true_and]
    rw [if_neg (by omega), if_neg (by omega), if_neg (by omega), e99]
set_option maxHeartbeats 1000000 in
theorem FM_lay_c (hw : w ≤ 1) (e : x = nI w) (q : ∀ H, lyP h H w → Q 0 H) : E X d FM_lay 0 [.ref 57, .int x, U0] [] h Q := by
  subst e
  refine (FM_lay_0 (FM_lay_1 ?_))
  refine FM_lay_lyA hw (h := h) (fun H1 h1 => ?_) 6 0 h (by omega) ⟨fun _ _ _ _ => rfl, fun k => by rw [if_neg (by omega)], fun k => by rw [if_neg (by omega)], fun k => by rw [if_neg (by omega)]⟩
  refine (FM_lay_65 (FM_lay_66 ?_))
  refine FM_lay_lyB hw (h := H1) (fun H2 h2 => ?_) 18 0 H1 (by omega) ⟨fun _ _ _ _ _ => rfl, fun k => by rw [if_neg (by omega)], fun k => by rw [if_neg (by omega)], fun k => by rw [if_neg (by omega)], fun k => by rw [if_neg (by omega)]⟩
  obtain ⟨f1, a1, a2, a3⟩ := h1
  obtain ⟨f2, b1, b2, b3, b4⟩ := h2
  have e57 : H2.1 57 = h.1 57 := by rw [f2 57 (by omega) (by omega) (by omega) (by omega), f1 57 (by omega) (by omega) (by omega)]
  have e99 : H2.1 99 = h.1 99 := by rw [f2 99 (by omega) (by omega) (by omega) (by omega), f1 99 (by omega) (by omega) (by omega)]
  refine (FM_lay_147 (FM_lay_148 (FM_lay_149 (FM_lay_152 (FM_lay_153 (FM_lay_154 (FM_lay_155n (nI_mulE (show (3 : Int32) = nI 3 from rfl) (by first | assumption | exact rfl)) (by omega) (FM_lay_156 (FM_lay_159 (FM_lay_160 (FM_lay_161 (FM_lay_164 (FM_lay_165 (FM_lay_166 (FM_lay_167 (FM_lay_168 (FM_lay_169n (nI_addE (nI_mulE (show (3 : Int32) = nI 3 from rfl) (by first | assumption | exact rfl)) (show (1 : Int32) = nI 1 from rfl)) (by omega) (FM_lay_170 (FM_lay_173 (FM_lay_174 (FM_lay_175 (FM_lay_178 (FM_lay_179 (FM_lay_180 (FM_lay_181 (FM_lay_182 (FM_lay_183n (nI_addE (nI_mulE (show (3 : Int32) = nI 3 from rfl) (by first | assumption | exact rfl)) (show (2 : Int32) = nI 2 from rfl)) (by omega) (FM_lay_184 (FM_lay_187 ?_)))))))))))))))))))))))))))))
  refine q _ ⟨fun r hr => ?_, fun y hy => ?_, fun y hy => ?_, ⟨?_, ?_, ?_⟩, fun k hk => ?_⟩
  · rw [pI_r (by omega), pI_r (by omega), pI_r (by omega), f2 r (by omega) (by omega) (by omega) (by omega), f1 r (by omega) (by omega) (by omega)]
  · simp only [pI_r (show 58 ≠ 57 by omega), pI_r (show 59 ≠ 57 by omega), pI_r (show 62 ≠ 57 by omega)]
    rw [f2 58 (by omega) (by omega) (by omega) (by omega), f2 59 (by omega) (by omega) (by omega) (by omega), f2 62 (by omega) (by omega) (by omega) (by omega), a1, a2, a3, if_pos hy, if_pos hy, if_pos hy]
    exact ⟨rfl, rfl, rfl⟩
  · simp only [pI_r (show 60 ≠ 57 by omega), pI_r (show 61 ≠ 57 by omega), pI_r (show 63 ≠ 57 by omega), pI_r (show 64 ≠ 57 by omega)]
    rw [b1, b2, b3, b4, if_pos hy, if_pos hy, if_pos hy, if_pos hy, f1 94 (by omega) (by omega) (by omega), f1 95 (by omega) (by omega) (by omega), f1 97 (by omega) (by omega) (by omega), f1 98 (by omega) (by omega) (by omega)]
    exact ⟨rfl, rfl, rfl, rfl⟩
  · simp [pI1, pI_r, e99]
  · simp [pI1, pI_r, e99]
  · simp [pI1, pI_r, e99]
  · simp only [pI1, true_and]
    rw [if_neg (by omega), if_neg (by omega), if_neg (by omega), e57]
end IM
section IL
variable {X : SX} {d : Nat} {h : HH} {Q : Int32 → HH → Prop}
theorem FM_image_l78 (K : ∀ H, rowc h H 101 79 12 → E X d FM_image 102 [.ref 57, .int (nI 12)] [] H Q) : ∀ (n i : Nat) (H : HH), i + n = 12 → rowc h H 101 79 i → E X d FM_image 78 [.ref 57, .int (nI i)] [] H Q := by
  intro n
  induction n with
  | zero =>
    intro i H hi hH
    obtain rfl : i = 12 := by omega
    refine (FM_image_78 (FM_image_79 (FM_image_81 (fun c81 => ?_) (fun c81 => ?_))))
    · exact K H hH
    · exact absurd (Int32.le_refl _) c81
  | succ n ih =>
    intro i H hi hH
    refine (FM_image_78 (FM_image_79 (FM_image_81 (fun c81 => ?_) (fun c81 => (FM_image_84 (FM_image_85 (FM_image_88 (FM_image_89 (FM_image_90 (FM_image_93 (FM_image_94n (by first | assumption | exact rfl) (by omega) (FM_image_95n (by first | assumption | exact rfl) (by omega) (FM_image_96 (FM_image_99 ?_))))))))))))))
    · exact absurd ((leN (show (12 : Int32) = nI 12 from rfl) rfl (by omega) (by omega)).mp c81) (by omega)
    · rw [nI_1]
      exact ih (i + 1) _ (by omega) (rowc_s (by omega) hH)
theorem FM_image_l104 (K : ∀ H, rowc h H 102 65 360 → E X d FM_image 129 [.ref 57, .int (nI 360)] [] H Q) : ∀ (n i : Nat) (H : HH), i + n = 360 → rowc h H 102 65 i → E X d FM_image 104 [.ref 57, .int (nI i)] [] H Q := by
  intro n
  induction n with
  | zero =>
    intro i H hi hH
    obtain rfl : i = 360 := by omega
    refine (FM_image_104 (FM_image_105 (FM_image_108 (fun c108 => ?_) (fun c108 => ?_))))
    · exact K H hH
    · exact absurd (Int32.le_refl _) c108
  | succ n ih =>
    intro i H hi hH
    refine (FM_image_104 (FM_image_105 (FM_image_108 (fun c108 => ?_) (fun c108 => (FM_image_111 (FM_image_112 (FM_image_115 (FM_image_116 (FM_image_117 (FM_image_120 (FM_image_121n (by first | assumption | exact rfl) (by omega) (FM_image_122n (by first | assumption | exact rfl) (by omega) (FM_image_123 (FM_image_126 ?_))))))))))))))
    · exact absurd ((leN (show (360 : Int32) = nI 360 from rfl) rfl (by omega) (by omega)).mp c108) (by omega)
    · rw [nI_1]
      exact ih (i + 1) _ (by omega) (rowc_s (by omega) hH)
theorem FM_back_l116 (K : ∀ H, rowc h H 79 101 12 → E X d FM_back 140 [.ref 57, .int (nI 12)] [] H Q) : ∀ (n i : Nat) (H : HH), i + n = 12 → rowc h H 79 101 i → E X d FM_back 116 [.ref 57, .int (nI i)] [] H Q := by
  intro n
  induction n with
  | zero =>
    intro i H hi hH
    obtain rfl : i = 12 := by omega
    refine (FM_back_116 (FM_back_117 (FM_back_119 (fun c119 => ?_) (fun c119 => ?_))))
    · exact K H hH
    · exact absurd (Int32.le_refl _) c119
  | succ n ih =>
    intro i H hi hH
    refine (FM_back_116 (FM_back_117 (FM_back_119 (fun c119 => ?_) (fun c119 => (FM_back_122 (FM_back_123 (FM_back_126 (FM_back_127 (FM_back_128 (FM_back_131 (FM_back_132n (by first | assumption | exact rfl) (by omega) (FM_back_133n (by first | assumption | exact rfl) (by omega) (FM_back_134 (FM_back_137 ?_))))))))))))))
    · exact absurd ((leN (show (12 : Int32) = nI 12 from rfl) rfl (by omega) (by omega)).mp c119) (by omega)
    · rw [nI_1]
      exact ih (i + 1) _ (by omega) (rowc_s (by omega) hH)
theorem FM_back_l142 (K : ∀ H, rowc h H 65 102 360 → E X d FM_back 167 [.ref 57, .int (nI 360)] [] H Q) : ∀ (n i : Nat) (H : HH), i + n = 360 → rowc h H 65 102 i → E X d FM_back 142 [.ref 57, .int (nI i)] [] H Q := by
  intro n
  induction n with
  | zero =>
    intro i H hi hH
    obtain rfl : i = 360 := by omega
    refine (FM_back_142 (FM_back_143 (FM_back_146 (fun c146 => ?_) (fun c146 => ?_))))
    · exact K H hH
    · exact absurd (Int32.le_refl _) c146
  | succ n ih =>
    intro i H hi hH
    refine (FM_back_142 (FM_back_143 (FM_back_146 (fun c146 => ?_) (fun c146 => (FM_back_149 (FM_back_150 (FM_back_153 (FM_back_154 (FM_back_155 (FM_back_158 (FM_back_159n (by first | assumption | exact rfl) (by omega) (FM_back_160n (by first | assumption | exact rfl) (by omega) (FM_back_161 (FM_back_164 ?_))))))))))))))
    · exact absurd ((leN (show (360 : Int32) = nI 360 from rfl) rfl (by omega) (by omega)).mp c146) (by omega)
    · rw [nI_1]
      exact ih (i + 1) _ (by omega) (rowc_s (by omega) hH)
end IL
