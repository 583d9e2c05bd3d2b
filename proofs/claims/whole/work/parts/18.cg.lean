theorem pI_r {h : HH} {i k : Nat} {v : Int32} {a : Nat} (hn : a ≠ i) : (pI h i k v).1 a = h.1 a := by funext b; simp [pI, hn]
theorem cR_r {h : HH} {i j sp dp n a : Nat} (hn : a ≠ j) : (cR h i j sp dp n).1 a = h.1 a := by funext b; simp [cR, hn]
section CG
variable {h h' : HH}
theorem iMisc_cg (e : h'.1 0 8 = h.1 0 8 ∧ h'.1 57 0 = h.1 57 0 ∧ h'.1 0 7 = h.1 0 7 ∧ h'.1 57 54 = h.1 57 54) (H : iMisc h) : iMisc h' := by
  obtain ⟨e1, e2, e3, e4⟩ := e
  simp only [iMisc, e1, e2, e3, e4]; exact H
theorem iCnt_cg {D w S L W K : Nat} (e : h'.1 2 1 = h.1 2 1 ∧ h'.1 57 1 = h.1 57 1 ∧ h'.1 1 6 = h.1 1 6 ∧ h'.1 57 10 = h.1 57 10 ∧ h'.1 2 2 = h.1 2 2 ∧ h'.1 57 11 = h.1 57 11 ∧ h'.1 2 3 = h.1 2 3 ∧ h'.1 57 12 = h.1 57 12 ∧ h'.1 2 4 = h.1 2 4 ∧ h'.1 57 13 = h.1 57 13 ∧ h'.1 2 5 = h.1 2 5 ∧ h'.1 57 14 = h.1 57 14 ∧ h'.1 57 15 = h.1 57 15 ∧ h'.1 57 21 = h.1 57 21 ∧ h'.1 57 31 = h.1 57 31 ∧ h'.1 57 36 = h.1 57 36) (H : iCnt h D w S L W K) : iCnt h' D w S L W K := by
  obtain ⟨e1, e2, e3, e4, e5, e6, e7, e8, e9, e10, e11, e12, e13, e14, e15, e16⟩ := e
  simp only [iCnt, e1, e2, e3, e4, e5, e6, e7, e8, e9, e10, e11, e12, e13, e14, e15, e16]; exact H
theorem iLand_cg {o D S P E C B L X u v : Nat} (e : h'.1 (o + 1) = h.1 (o + 1) ∧ h'.1 S = h.1 S ∧ h'.1 P = h.1 P ∧ h'.1 E = h.1 E ∧ h'.1 C = h.1 C ∧ h'.1 B = h.1 B ∧ h'.1 L = h.1 L ∧ h'.1 X = h.1 X) (H : iLand h o D S P E C B L X u v) : iLand h' o D S P E C B L X u v := by
  obtain ⟨e1, e2, e3, e4, e5, e6, e7, e8⟩ := e
  simp only [iLand, e1, e2, e3, e4, e5, e6, e7, e8]; exact H
theorem plc_cg {k : Nat} (e : h'.1 66 k = h.1 66 k ∧ h'.1 67 k = h.1 67 k ∧ h'.1 68 k = h.1 68 k) : plc h' k = plc h k := by
  simp only [plc, e.1, e.2.1, e.2.2]
theorem lst_cg : ∀ (n p : Nat), (∀ k, k < n → plc h' k = plc h k) → lst h' n p = lst h n p
  | 0, _, _ => rfl
  | n + 1, p, hk => by
    simp only [lst, hk n (by omega), lst_cg n p (fun k q => hk k (by omega))]
theorem iSigns_cg {o S w : Nat} (e : h'.1 o 4 = h.1 o 4 ∧ h'.1 (o + 1) = h.1 (o + 1) ∧ h'.1 (o + 2) = h.1 (o + 2) ∧ h'.1 (o + 3) = h.1 (o + 3) ∧ h'.1 (o + 4) = h.1 (o + 4)) (er : ∀ k, k < S → h'.1 66 k = h.1 66 k ∧ h'.1 67 k = h.1 67 k ∧ h'.1 68 k = h.1 68 k ∧ h'.1 69 k = h.1 69 k ∧ h'.1 70 k = h.1 70 k) (H : iSigns h o S w) : iSigns h' o S w := by
  obtain ⟨e1, e2, e3, e4, e5⟩ := e
  obtain ⟨h1, h2, h3, h4⟩ := H
  have hp : ∀ k, k < S → plc h' k = plc h k := fun k hk => plc_cg ⟨(er k hk).1, (er k hk).2.1, (er k hk).2.2.1⟩
  refine ⟨h1, by rw [e1]; exact h2, fun k hk => ?_, fun p hpp => ?_⟩
  · obtain ⟨r1, r2, r3, r4, r5⟩ := er k hk
    rw [r1, r2, r3, r4, r5, e2, e3, e4, hp k hk, lst_cg k _ (fun j hj => hp j (by omega))]
    exact h3 k hk
  · rw [e5, lst_cg S p hp]; exact h4 p hpp
theorem iLines_cg {o L en : Nat} (e : h'.1 o 1 = h.1 o 1 ∧ h'.1 (o + 1) = h.1 (o + 1)) (er : ∀ k, k < L → h'.1 71 k = h.1 71 k ∧ h'.1 72 k = h.1 72 k ∧ h'.1 73 k = h.1 73 k ∧ h'.1 74 k = h.1 74 k ∧ h'.1 75 k = h.1 75 k ∧ h'.1 76 k = h.1 76 k ∧ h'.1 77 k = h.1 77 k ∧ h'.1 78 k = h.1 78 k ∧ h'.1 en k = h.1 en k) (H : iLines h o L en) : iLines h' o L en := by
  obtain ⟨h1, h2, h3⟩ := H
  refine ⟨h1, by rw [e.1]; exact h2, fun l hl => ?_⟩
  obtain ⟨r1, r2, r3, r4, r5, r6, r7, r8, r9⟩ := er l hl
  rw [r1, r2, r3, r4, r5, r6, r7, r8, r9, e.2]
  exact h3 l hl
theorem iWays_cg {o W D : Nat} (e : h'.1 o 4 = h.1 o 4 ∧ h'.1 (o + 1) = h.1 (o + 1) ∧ h'.1 (o + 2) = h.1 (o + 2) ∧ h'.1 (o + 3) = h.1 (o + 3) ∧ h'.1 (o + 4) = h.1 (o + 4)) (er : ∀ k, k < W → h'.1 80 k = h.1 80 k ∧ h'.1 81 k = h.1 81 k ∧ h'.1 82 k = h.1 82 k ∧ h'.1 83 k = h.1 83 k) (H : iWays h o W D) : iWays h' o W D := by
  obtain ⟨e1, e2, e3, e4, e5⟩ := e
  obtain ⟨h1, h2, h3⟩ := H
  refine ⟨h1, by rw [e1]; exact h2, fun l hl => ?_⟩
  obtain ⟨r1, r2, r3, r4⟩ := er l hl
  rw [r1, r2, r3, r4, e2, e3, e4, e5]
  exact h3 l hl
theorem iWorks_cg {o K : Nat} (e : h'.1 o 3 = h.1 o 3 ∧ h'.1 (o + 1) = h.1 (o + 1) ∧ h'.1 (o + 2) = h.1 (o + 2) ∧ h'.1 (o + 3) = h.1 (o + 3)) (er : ∀ k, k < K → h'.1 84 k = h.1 84 k ∧ h'.1 85 k = h.1 85 k ∧ h'.1 86 k = h.1 86 k) (H : iWorks h o K) : iWorks h' o K := by
  obtain ⟨e1, e2, e3, e4⟩ := e
  obtain ⟨h1, h2, h3⟩ := H
  refine ⟨h1, by rw [e1]; exact h2, fun l hl => ?_⟩
  obtain ⟨r1, r2, r3⟩ := er l hl
  rw [r1, r2, r3, e2, e3, e4]
  exact h3 l hl
theorem iWas_cg {a b : Nat} (e : h'.1 a = h.1 a ∧ h'.1 b = h.1 b) (H : iWas h a b) : iWas h' a b := by
  simp only [iWas, e.1, e.2]; exact H
theorem iAct_cg (e : h'.1 51 1 = h.1 51 1 ∧ h'.1 57 59 = h.1 57 59 ∧ h'.1 52 = h.1 52 ∧ h'.1 103 = h.1 103) (H : iAct h) : iAct h' := by
  simp only [iAct, e.1, e.2.1, e.2.2.1, e.2.2.2]; exact H
theorem iSheet_cg (e : h'.1 54 = h.1 54 ∧ h'.1 55 = h.1 55 ∧ h'.1 56 = h.1 56 ∧ h'.1 104 = h.1 104 ∧ h'.1 105 = h.1 105 ∧ h'.1 106 = h.1 106) (H : iSheet h) : iSheet h' := by
  obtain ⟨e1, e2, e3, e4, e5, e6⟩ := e
  simp only [iSheet, e1, e2, e3, e4, e5, e6]; exact H
theorem iKept_cg {S L W K S2 L2 W2 K2 : Nat} (hS : S ≤ S2) (hL : L ≤ L2) (hW : W ≤ W2) (hK : K ≤ K2)
    (e : (h'.1 0 6 = h.1 0 6 ∧ h'.1 57 53 = h.1 57 53 ∧ h'.1 22 = h.1 22 ∧ h'.1 21 6 = h.1 21 6 ∧ h'.1 24 4 = h.1 24 4 ∧ h'.1 29 1 = h.1 29 1 ∧ h'.1 31 4 = h.1 31 4 ∧ h'.1 36 3 = h.1 36 3) ∧
      (h'.1 23 = h.1 23 ∧ h'.1 25 = h.1 25 ∧ h'.1 26 = h.1 26 ∧ h'.1 27 = h.1 27 ∧ h'.1 28 = h.1 28 ∧ h'.1 30 = h.1 30 ∧ h'.1 32 = h.1 32 ∧ h'.1 33 = h.1 33 ∧ h'.1 34 = h.1 34 ∧ h'.1 35 = h.1 35 ∧ h'.1 37 = h.1 37 ∧ h'.1 38 = h.1 38 ∧ h'.1 39 = h.1 39 ∧ h'.1 40 = h.1 40) ∧
      h'.1 92 = h.1 92 ∧ h'.1 93 = h.1 93 ∧ h'.1 94 = h.1 94 ∧ h'.1 95 = h.1 95 ∧ h'.1 96 = h.1 96 ∧ h'.1 97 = h.1 97 ∧ h'.1 98 = h.1 98 ∧ h'.1 99 = h.1 99 ∧ h'.1 100 = h.1 100 ∧ h'.1 101 = h.1 101 ∧ h'.1 102 = h.1 102)
    (r1 : ∀ k, k < S → h'.1 66 k = h.1 66 k ∧ h'.1 67 k = h.1 67 k ∧ h'.1 68 k = h.1 68 k ∧ h'.1 69 k = h.1 69 k ∧ h'.1 70 k = h.1 70 k)
    (r2 : ∀ k, k < L → h'.1 71 k = h.1 71 k ∧ h'.1 72 k = h.1 72 k ∧ h'.1 73 k = h.1 73 k ∧ h'.1 74 k = h.1 74 k ∧ h'.1 75 k = h.1 75 k ∧ h'.1 76 k = h.1 76 k ∧ h'.1 77 k = h.1 77 k ∧ h'.1 78 k = h.1 78 k)
    (r3 : ∀ k, k < W → h'.1 80 k = h.1 80 k ∧ h'.1 81 k = h.1 81 k ∧ h'.1 82 k = h.1 82 k ∧ h'.1 83 k = h.1 83 k)
    (r4 : ∀ k, k < K → h'.1 84 k = h.1 84 k ∧ h'.1 85 k = h.1 85 k ∧ h'.1 86 k = h.1 86 k) (H : iKept h S L W K) : iKept h' S2 L2 W2 K2 := by
  obtain ⟨⟨a1, a2, a3, a4, a5, a6, a7, a8⟩, ⟨b1, b2, b3, b4, b5, b6, b7, b8, b9, b10, b11, b12, b13, b14⟩, c1, c2, c3, c4, c5, c6, c7, c8, c9, c10, c11⟩ := e
  obtain ⟨H1, H2⟩ := H
  refine ⟨by rw [a1, a2]; exact H1, ?_⟩
  rcases H2 with H2 | ⟨H2, D', w', S', L', W', K', q1, q2, q3, q4, q5, q6, q7, q8, q9, q10, q11, q12, q13, q14, q15, q16, q17, q18, q19⟩
  · exact Or.inl (by rw [a2]; exact H2)
  · refine Or.inr ⟨by rw [a2]; exact H2, D', w', S', L', W', K', q1, q2, by omega, by omega, by omega, by omega, ?_⟩
    rw [a3, a4, c8, c9]
    obtain ⟨q20, q21, q22, q23, q24, q25, q26⟩ := q19
    exact ⟨q7, q8, q9, q10, q11, q12, q13, q14, q15, q16, q17, q18, q20, iLand_cg (o := 22) ⟨b1, c1, c2, c3, c4, c5, c6, c7⟩ q21,
      iSigns_cg (o := 24) ⟨a5, b2, b3, b4, b5⟩ (fun k hk => r1 k (by omega)) q22, iLines_cg (o := 29) ⟨a6, b6⟩ (fun k hk => by obtain ⟨z1, z2, z3, z4, z5, z6, z7, z8⟩ := r2 k (by omega); exact ⟨z1, z2, z3, z4, z5, z6, z7, z8, by rw [c10]⟩) q23,
      iWays_cg (o := 31) ⟨a7, b7, b8, b9, b10⟩ (fun k hk => r3 k (by omega)) q24, iWorks_cg (o := 36) ⟨a8, b11, b12, b13⟩ (fun k hk => r4 k (by omega)) q25, iWas_cg ⟨b14, c11⟩ q26⟩
end CG
