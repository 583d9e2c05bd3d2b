section SA
variable {X : SX} {d g D W : Nat} {h : HH} {Q : Int32 → HH → Prop} {f t : Nat → Nat} {k cp sp pt : Nat → Int}
/-- the rooms as the class keeps them -/
def RR (cp sp : Nat → Int) (W D : Nat) (H : HH) (s : (Nat → Int) × (Nat → Int)) : Prop := ∀ e, e < 30 → H.1 47 e = Int32.ofInt (rs cp sp W D s.1 s.2 e)
def frR (h H : HH) : Prop := (∀ r, r ≠ 47 → H.1 r = h.1 r) ∧ H.2 = h.2
/-- what a walk back needs of the rows -/
def Bck (h : HH) (eu pd rk : Nat → Nat) (lab : Nat → Option Int) (D : Nat) : Prop := ∀ v a, v ≠ 6 → lab v = some a → v < 6 ∧ h.1 50 v = nI (pd v) ∧ pd v < 30 ∧ h.1 45 (pd v) = nI (eu (pd v)) ∧ rk (eu (pd v)) < rk v ∧ (∃ b, lab (eu (pd v)) = some b) ∧ rk v ≤ 6 ∧ 0 < (h.1 47 (pd v)).toInt
theorem send_1 {g0 : Nat} {most : Int32} {eu pd rk : Nat → Nat} {lab : Nat → Option Int} {a6 : Value} (B : Bck h eu pd rk lab D) : ∀ (n v s : Nat) (a : Int) (q : Int32), rk v ≤ n → s + rk v ≤ 6 → lab v = some a → (v < 7) → 0 < q.toInt →
    (∀ (q' : Int32) (v' s' : Nat), 0 < q'.toInt → q'.toInt ≤ q.toInt → pok (fun e => (h.1 47 e).toInt) eu pd q'.toInt n v → E X (d + 1) Ca_sendAlong 59 [.ref 43, .int (nI g0), .int most, .int q', .int (nI v'), .int (nI s'), a6] [] h Q) →
    E X (d + 1) Ca_sendAlong 8 [.ref 43, .int (nI g0), .int most, .int q, .int (nI v), .int (nI s), a6] [] h Q := by
  intro n
  induction n with
  | zero =>
    intro v s a q hn hs la hv q0 K
    have v6 : v = 6 := by
      by_cases z : v = 6
      · exact z
      · obtain ⟨_, _, _, _, b5, _⟩ := B v a z la; omega
    subst v6
    refine (Ca_sendAlong_8 (Ca_sendAlong_10 (Ca_sendAlong_12 (fun c12 => ?_) (fun c12 => (Ca_sendAlong_15 (Ca_sendAlong_17 (Ca_sendAlong_19 (fun c19 => ?_) (fun c19 => ?_))))))))
    · exact K q _ _ q0 (Int.le_refl _) trivial
    · exact K q _ _ q0 (Int.le_refl _) trivial
    · exact absurd rfl c19
  | succ n ih =>
    intro v s a q hn hs la hv q0 K
    by_cases v6 : v = 6
    · subst v6
      refine (Ca_sendAlong_8 (Ca_sendAlong_10 (Ca_sendAlong_12 (fun c12 => ?_) (fun c12 => (Ca_sendAlong_15 (Ca_sendAlong_17 (Ca_sendAlong_19 (fun c19 => ?_) (fun c19 => ?_))))))))
      · exact K q _ _ q0 (Int.le_refl _) (Or.inl rfl)
      · exact K q _ _ q0 (Int.le_refl _) (Or.inl rfl)
      · exact absurd rfl c19
    · obtain ⟨b1, b2, b3, b4, b5, ⟨b, b6⟩, b7, b8⟩ := B v a v6 la
      refine (Ca_sendAlong_8 (Ca_sendAlong_10 (Ca_sendAlong_12 (fun c12 => ?_) (fun c12 => (Ca_sendAlong_15 (Ca_sendAlong_17 (Ca_sendAlong_19 (fun c19 => ?_) (fun c19 => ?_))))))))
      · exact absurd ((leN (show (7 : Int32) = nI 7 from rfl) rfl (by omega) (by omega)).mp c12) (by omega)
      · exact absurd ((eqN rfl (show (6 : Int32) = nI 6 from rfl) (by omega) (by omega)).mp c19) v6
      · refine (Ca_sendAlong_22 (Ca_sendAlong_23 (Ca_sendAlong_24 (Ca_sendAlong_27 (Ca_sendAlong_28 (Ca_sendAlong_31 (Ca_sendAlong_33n (by first | assumption | exact rfl) (by omega) (Ca_sendAlong_34n (by assumption) (by omega) (Ca_sendAlong_35 (Nat.le_of_ble_eq_true rfl) (JM_min_c (Ca_sendAlong_38 (Ca_sendAlong_39 (Ca_sendAlong_40 (Ca_sendAlong_43 (Ca_sendAlong_44 (Ca_sendAlong_47 (Ca_sendAlong_49n (by first | assumption | exact rfl) (by omega) (Ca_sendAlong_50n (by assumption) (by omega) (Ca_sendAlong_51 (Ca_sendAlong_53 (Ca_sendAlong_56 ?_)))))))))))))))))))))
        rw [b4, nI_1]
        have u7 : eu (pd v) < 7 := by
          by_cases z : eu (pd v) = 6
          · omega
          · have := (B _ b z b6).1; omega
        have mt : (mn q (h.1 47 (pd v))).toInt ≤ q.toInt ∧ (mn q (h.1 47 (pd v))).toInt ≤ (h.1 47 (pd v)).toInt ∧ 0 < (mn q (h.1 47 (pd v))).toInt := by
          unfold mn
          by_cases z : h.1 47 (pd v) < q
          · have := (fa_lt _ _).mp z
            rw [if_pos z]; omega
          · have : ¬ (h.1 47 (pd v)).toInt < q.toInt := fun y => z ((fa_lt _ _).mpr y)
            rw [if_neg z]; omega
        refine ih (eu (pd v)) (s + 1) b _ (by omega) (by omega) b6 u7 mt.2.2 (fun q' v' s' h1 h2 h3 => ?_)
        exact K q' v' s' h1 (by omega) (Or.inr ⟨by show q'.toInt ≤ (h.1 47 (pd v)).toInt; omega, h3⟩)
theorem rs_ag_f {x z : Nat → Int} {w : Nat} {q : Int} (w1 : w < W) (W12 : W ≤ 12) (e : Nat) : rs cp sp W D (ag1 q w (x, z)).1 (ag1 q w (x, z)).2 e = rs cp sp W D x z e - (if e = w then q else 0) + (if e = 12 + w then q else 0) := by
  unfold ag1
  rw [if_pos (show w < 12 by omega)]
  unfold rs
  simp only
  by_cases z1 : e < 12
  · rw [if_pos z1, if_pos z1]
    by_cases z2 : e = w
    · subst z2
      rw [if_pos w1, if_pos w1, uq_at, if_pos rfl, if_neg (show ¬ e = 12 + e by omega)]; omega
    · rw [uq_ne z2, if_neg z2, if_neg (show ¬ e = 12 + w by omega)]; omega
  · rw [if_neg z1, if_neg z1]
    by_cases z3 : e < 24
    · rw [if_pos z3, if_pos z3]
      by_cases z2 : e = 12 + w
      · rw [show e - 12 = w by omega, if_pos w1, if_pos w1, uq_at, if_neg (show ¬ e = w by omega), if_pos z2]; omega
      · rw [uq_ne (show e - 12 ≠ w by omega), if_neg (show ¬ e = w by omega), if_neg z2]; omega
    · rw [if_neg z3, if_neg z3, if_neg (show ¬ e = w by omega), if_neg (show ¬ e = 12 + w by omega)]; omega
theorem rs_ag_b {x z : Nat → Int} {w : Nat} {q : Int} (w1 : w < W) (W12 : W ≤ 12) (e : Nat) : rs cp sp W D (ag1 q (12 + w) (x, z)).1 (ag1 q (12 + w) (x, z)).2 e = rs cp sp W D x z e - (if e = 12 + w then q else 0) + (if e = w then q else 0) := by
  unfold ag1
  rw [if_neg (show ¬ 12 + w < 12 by omega), if_pos (show 12 + w < 24 by omega), Nat.add_sub_cancel_left]
  unfold rs
  simp only
  by_cases z1 : e < 12
  · rw [if_pos z1, if_pos z1]
    by_cases z2 : e = w
    · subst z2
      rw [if_pos w1, if_pos w1, uq_at, if_neg (show ¬ e = 12 + e by omega), if_pos rfl]; omega
    · rw [uq_ne z2, if_neg (show ¬ e = 12 + w by omega), if_neg z2]; omega
  · rw [if_neg z1, if_neg z1]
    by_cases z3 : e < 24
    · rw [if_pos z3, if_pos z3]
      by_cases z2 : e = 12 + w
      · rw [show e - 12 = w by omega, if_pos w1, if_pos w1, uq_at, if_pos z2, if_neg (show ¬ e = w by omega)]; omega
      · rw [uq_ne (show e - 12 ≠ w by omega), if_neg z2, if_neg (show ¬ e = w by omega)]; omega
    · rw [if_neg z3, if_neg z3, if_neg (show ¬ e = 12 + w by omega), if_neg (show ¬ e = w by omega)]; omega
theorem rs_ag_g {x z : Nat → Int} {d : Nat} {q : Int} (d1 : d < D) (e : Nat) : rs cp sp W D (ag1 q (24 + d) (x, z)).1 (ag1 q (24 + d) (x, z)).2 e = rs cp sp W D x z e - (if e = 24 + d then q else 0) := by
  unfold ag1
  rw [if_neg (show ¬ 24 + d < 12 by omega), if_neg (show ¬ 24 + d < 24 by omega), Nat.add_sub_cancel_left]
  unfold rs
  simp only
  by_cases z1 : e < 12
  · rw [if_pos z1, if_pos z1, if_neg (show ¬ e = 24 + d by omega)]; omega
  · rw [if_neg z1, if_neg z1]
    by_cases z3 : e < 24
    · rw [if_pos z3, if_pos z3, if_neg (show ¬ e = 24 + d by omega)]; omega
    · rw [if_neg z3, if_neg z3]
      by_cases z2 : e = 24 + d
      · rw [show e - 24 = d by omega, if_pos d1, if_pos d1, uq_at, if_pos z2]; omega
      · rw [uq_ne (show e - 24 ≠ d by omega), if_neg z2]; omega
theorem ofI_if {c : Prop} {q : Int32} (hc : Decidable c) : Int32.ofInt (if c then q.toInt else 0) = if c then q else 0 := by
  split
  · exact Int32.ofInt_toInt q
  · rfl
theorem send_2 {g0 : Nat} {most q : Int32} {eu pd rk : Nat → Nat} {lab : Nat → Option Int} (W12 : W ≤ 12) (D6 : D ≤ 6) (B : Bck h eu pd rk lab D) (hk0 : ∀ v a, v ≠ 6 → lab v = some a → (∃ w, w < W ∧ (pd v = w ∨ pd v = 12 + w)) ∨ ∃ d, d < D ∧ pd v = 24 + d) : ∀ (n v s : Nat) (a : Int) (H : HH) (xz : (Nat → Int) × (Nat → Int)) (a6 : Value), rk v ≤ n → s + rk v ≤ 6 → lab v = some a → v < 7 → frR h H → RR cp sp W D H xz →
    (∀ H', frR h H' → RR cp sp W D H' (aug eu pd q.toInt n v xz) → Q q H') →
    E X (d + 1) Ca_sendAlong 65 [.ref 43, .int (nI g0), .int most, .int q, .int (nI v), .int (nI s), a6] [] H Q := by
  intro n
  induction n with
  | zero =>
    intro v s a H xz a6 hn hs la hv fr R K
    have v6 : v = 6 := by
      by_cases z : v = 6
      · exact z
      · obtain ⟨_, _, _, _, b5, _⟩ := B v a z la; omega
    subst v6
    refine (Ca_sendAlong_65 (Ca_sendAlong_67 (Ca_sendAlong_69 (fun c69 => (Ca_sendAlong_150 (Ca_sendAlong_151 ?_))) (fun c69 => (Ca_sendAlong_72 (Ca_sendAlong_74 (Ca_sendAlong_76 (fun c76 => (Ca_sendAlong_150 (Ca_sendAlong_151 ?_))) (fun c76 => ?_))))))))
    · exact K H fr R
    · exact K H fr R
    · exact absurd rfl c76
  | succ n ih =>
    intro v s a H xz a6 hn hs la hv fr R K
    by_cases v6 : v = 6
    · subst v6
      have K := K H fr (by rw [aug, if_pos rfl]; exact R)
      refine (Ca_sendAlong_65 (Ca_sendAlong_67 (Ca_sendAlong_69 (fun c69 => (Ca_sendAlong_150 (Ca_sendAlong_151 ?_))) (fun c69 => (Ca_sendAlong_72 (Ca_sendAlong_74 (Ca_sendAlong_76 (fun c76 => (Ca_sendAlong_150 (Ca_sendAlong_151 ?_))) (fun c76 => ?_))))))))
      · exact K
      · exact K
      · exact absurd rfl c76
    · obtain ⟨b1, b2, b3, b4, b5, ⟨b, b6⟩, b7, b8⟩ := B v a v6 la
      have u7 : eu (pd v) < 7 := by
        by_cases z : eu (pd v) = 6
        · omega
        · have := (B _ b z b6).1; omega
      have x50 : H.1 50 v = nI (pd v) := by rw [fr.1 50 (by omega)]; exact b2
      have x45 : H.1 45 (pd v) = nI (eu (pd v)) := by rw [fr.1 45 (by omega)]; exact b4
      rw [aug, if_neg v6] at K
      have nx : ∀ H' : HH, frR h H' → RR cp sp W D H' (ag1 q.toInt (pd v) xz) → ∀ a6 : Value, E X (d + 1) Ca_sendAlong 65 [.ref 43, .int (nI g0), .int most, .int q, .int (nI (eu (pd v))), .int (nI (s + 1)), a6] [] H' Q := fun H' fr' R' a6 =>
        ih (eu (pd v)) (s + 1) b H' (ag1 q.toInt (pd v) xz) a6 (by omega) (by omega) b6 u7 fr' R' K
      have p24 : ∀ n, n < 100 → ((24 : Int32) ≤ nI n ↔ 24 ≤ n) := fun n hn => leN (show (24 : Int32) = nI 24 from rfl) rfl (by omega) (by omega)
      have p12 : ∀ n, n < 100 → ((12 : Int32) ≤ nI n ↔ 12 ≤ n) := fun n hn => leN (show (12 : Int32) = nI 12 from rfl) rfl (by omega) (by omega)
      generalize ep : pd v = p at *
      refine (Ca_sendAlong_65 (Ca_sendAlong_67 (Ca_sendAlong_69 (fun c69 => (Ca_sendAlong_150 (Ca_sendAlong_151 ?_))) (fun c69 => (Ca_sendAlong_72 (Ca_sendAlong_74 (Ca_sendAlong_76 (fun c76 => (Ca_sendAlong_150 (Ca_sendAlong_151 ?_))) (fun c76 => (Ca_sendAlong_79 (Ca_sendAlong_80 (Ca_sendAlong_83 (Ca_sendAlong_85n (by first | assumption | exact rfl) (by omega) (Ca_sendAlong_86 ?_)))))))))))))
      · exact absurd ((leN (show (7 : Int32) = nI 7 from rfl) rfl (by omega) (by omega)).mp c69) (by omega)
      · exact absurd ((eqN rfl (show (6 : Int32) = nI 6 from rfl) (by omega) (by omega)).mp c76) v6
      · rw [x50]
        have hq3 : ∀ e : Nat, Int32.ofInt (rs cp sp W D xz.1 xz.2 e - (if e = p then q.toInt else 0)) = Int32.ofInt (rs cp sp W D xz.1 xz.2 e) - (if e = p then q else 0) := fun e => by
          rw [Int32.ofInt_sub, ofI_if]
        rcases hk0 v a v6 la with ⟨w, w1, w2⟩ | ⟨d', d1, d2⟩
        · rw [ep] at w2
          rcases w2 with w2 | w2
          · subst w2
            refine (Ca_sendAlong_88 (Ca_sendAlong_89 (Ca_sendAlong_92 (Ca_sendAlong_94 (Ca_sendAlong_95n (by first | assumption | exact rfl) (by omega) (Ca_sendAlong_96 (Ca_sendAlong_97 (Ca_sendAlong_98n (by first | assumption | exact rfl) (by omega) (Ca_sendAlong_99 (Ca_sendAlong_101 (Ca_sendAlong_103 (fun c103 => (Ca_sendAlong_135 (Ca_sendAlong_136 (Ca_sendAlong_139 (Ca_sendAlong_141n (by first | assumption | exact rfl) (by omega) (Ca_sendAlong_142 (Ca_sendAlong_144 (Ca_sendAlong_147 ?_)))))))) (fun c103 => (Ca_sendAlong_106 (Ca_sendAlong_107 (Ca_sendAlong_110 (Ca_sendAlong_112 (Ca_sendAlong_114 (fun c114 => ?_) (fun c114 => ?_))))))))))))))))))
            · exact absurd ((p24 p (by omega)).mp c103) (by omega)
            · exact absurd ((p12 p (by omega)).mp c114) (by omega)
            · refine (Ca_sendAlong_117 (Ca_sendAlong_119 (Ca_sendAlong_121 (Ca_sendAlong_122 (Ca_sendAlong_130 (Ca_sendAlong_131n (nI_addE (by first | assumption | exact rfl) (show (12 : Int32) = nI 12 from rfl)) (by omega) (Ca_sendAlong_132 (Ca_sendAlong_133 (Ca_sendAlong_134n (nI_addE (by first | assumption | exact rfl) (show (12 : Int32) = nI 12 from rfl)) (by omega) (Ca_sendAlong_135 (Ca_sendAlong_136 (Ca_sendAlong_139 (Ca_sendAlong_141n (by first | assumption | exact rfl) (by omega) (Ca_sendAlong_142 (Ca_sendAlong_144 (Ca_sendAlong_147 ?_))))))))))))))))
              rw [show ∀ a b : Int32, (pI (pI H 47 p a) 47 (p + 12) b).1 45 p = nI (eu p) from fun a b => by rw [pI_r (by omega), pI_r (by omega)]; exact x45, nI_1]
              refine nx _ ⟨fun r hr => by rw [pI_r hr, pI_r hr]; exact fr.1 r hr, by exact fr.2⟩ (fun e he => ?_) _
              rw [rs_ag_f w1 W12 e, Int32.ofInt_add, Int32.ofInt_sub, ofI_if, ofI_if, ← R e he]
              simp only [pI1, true_and]
              by_cases z1 : e = p + 12
              · rw [if_pos z1, if_neg (show ¬ p + 12 = p by omega), if_neg (show ¬ e = p by omega), if_pos (show e = 12 + p by omega), z1, Int32.sub_zero]
              · rw [if_neg z1, if_neg (show ¬ e = 12 + p by omega), Int32.add_zero]
                by_cases z2 : e = p
                · rw [if_pos z2, if_pos z2, z2]
                · rw [if_neg z2, if_neg z2, Int32.sub_zero]
          · subst w2
            refine (Ca_sendAlong_88 (Ca_sendAlong_89 (Ca_sendAlong_92 (Ca_sendAlong_94 (Ca_sendAlong_95n (by first | assumption | exact rfl) (by omega) (Ca_sendAlong_96 (Ca_sendAlong_97 (Ca_sendAlong_98n (by first | assumption | exact rfl) (by omega) (Ca_sendAlong_99 (Ca_sendAlong_101 (Ca_sendAlong_103 (fun c103 => (Ca_sendAlong_135 (Ca_sendAlong_136 (Ca_sendAlong_139 (Ca_sendAlong_141n (by first | assumption | exact rfl) (by omega) (Ca_sendAlong_142 (Ca_sendAlong_144 (Ca_sendAlong_147 ?_)))))))) (fun c103 => (Ca_sendAlong_106 (Ca_sendAlong_107 (Ca_sendAlong_110 (Ca_sendAlong_112 (Ca_sendAlong_114 (fun c114 => ?_) (fun c114 => ?_))))))))))))))))))
            · exact absurd ((p24 (12 + w) (by omega)).mp c103) (by omega)
            · refine (Ca_sendAlong_125 (Ca_sendAlong_127 (Ca_sendAlong_129 (Ca_sendAlong_130 (Ca_sendAlong_131n (nI_subE (by first | assumption | exact rfl) (show (12 : Int32) = nI 12 from rfl) (by omega)) (by omega) (Ca_sendAlong_132 (Ca_sendAlong_133 (Ca_sendAlong_134n (nI_subE (by first | assumption | exact rfl) (show (12 : Int32) = nI 12 from rfl) (by omega)) (by omega) (Ca_sendAlong_135 (Ca_sendAlong_136 (Ca_sendAlong_139 (Ca_sendAlong_141n (by first | assumption | exact rfl) (by omega) (Ca_sendAlong_142 (Ca_sendAlong_144 (Ca_sendAlong_147 ?_)))))))))))))))
              rw [show 12 + w - 12 = w by omega]
              rw [show ∀ a b : Int32, (pI (pI H 47 (12 + w) a) 47 w b).1 45 (12 + w) = nI (eu (12 + w)) from fun a b => by rw [pI_r (by omega), pI_r (by omega)]; exact x45, nI_1]
              refine nx _ ⟨fun r hr => by rw [pI_r hr, pI_r hr]; exact fr.1 r hr, by exact fr.2⟩ (fun e he => ?_) _
              rw [rs_ag_b w1 W12 e, Int32.ofInt_add, Int32.ofInt_sub, ofI_if, ofI_if, ← R e he]
              simp only [pI1, true_and]
              by_cases z1 : e = w
              · rw [if_pos z1, if_neg (show ¬ w = 12 + w by omega), if_neg (show ¬ e = 12 + w by omega), if_pos z1, z1, Int32.sub_zero]
              · rw [if_neg z1, if_neg z1, Int32.add_zero]
                by_cases z2 : e = 12 + w
                · rw [if_pos z2, if_pos z2, z2]
                · rw [if_neg z2, if_neg z2, Int32.sub_zero]
            · exact absurd ((p12 (12 + w) (by omega)).mpr (by omega)) c114
        · rw [ep] at d2
          subst d2
          refine (Ca_sendAlong_88 (Ca_sendAlong_89 (Ca_sendAlong_92 (Ca_sendAlong_94 (Ca_sendAlong_95n (by first | assumption | exact rfl) (by omega) (Ca_sendAlong_96 (Ca_sendAlong_97 (Ca_sendAlong_98n (by first | assumption | exact rfl) (by omega) (Ca_sendAlong_99 (Ca_sendAlong_101 (Ca_sendAlong_103 (fun c103 => (Ca_sendAlong_135 (Ca_sendAlong_136 (Ca_sendAlong_139 (Ca_sendAlong_141n (by first | assumption | exact rfl) (by omega) (Ca_sendAlong_142 (Ca_sendAlong_144 (Ca_sendAlong_147 ?_)))))))) (fun c103 => (Ca_sendAlong_106 (Ca_sendAlong_107 (Ca_sendAlong_110 (Ca_sendAlong_112 (Ca_sendAlong_114 (fun c114 => ?_) (fun c114 => ?_))))))))))))))))))
          · rw [show ∀ a : Int32, (pI H 47 (24 + d') a).1 45 (24 + d') = nI (eu (24 + d')) from fun a => by rw [pI_r (by omega)]; exact x45, nI_1]
            refine nx _ ⟨fun r hr => by rw [pI_r hr]; exact fr.1 r hr, by exact fr.2⟩ (fun e he => ?_) _
            rw [rs_ag_g d1 e, Int32.ofInt_sub, ofI_if, ← R e he]
            simp only [pI1, true_and]
            by_cases z2 : e = 24 + d'
            · rw [if_pos z2, if_pos z2, z2]
            · rw [if_neg z2, if_neg z2, Int32.sub_zero]
          · exact absurd ((p24 (24 + d') (by omega)).mpr (by omega)) c103
          · exact absurd ((p24 (24 + d') (by omega)).mpr (by omega)) c103
theorem sendAlong_c {g0 : Nat} {most : Int32} {eu pd rk : Nat → Nat} {lab : Nat → Option Int} {a : Int} {xz : (Nat → Int) × (Nat → Int)} (W12 : W ≤ 12) (D6 : D ≤ 6) (B : Bck h eu pd rk lab D) (hk0 : ∀ v a, v ≠ 6 → lab v = some a → (∃ w, w < W ∧ (pd v = w ∨ pd v = 12 + w)) ∨ ∃ d, d < D ∧ pd v = 24 + d) (hg : g0 < 6) (la : lab g0 = some a) (m0 : 0 < most.toInt) (R : RR cp sp W D h xz)
    (K : ∀ (q : Int32) (H' : HH), 0 < q.toInt → q.toInt ≤ most.toInt → pok (fun e => (h.1 47 e).toInt) eu pd q.toInt 6 g0 → frR h H' → RR cp sp W D H' (aug eu pd q.toInt 6 g0 xz) → Q q H') :
    E X (d + 1) Ca_sendAlong 0 [.ref 43, .int (nI g0), .int most, U0, U0, U0, U0] [] h Q := by
  have rk6 := (B g0 a (by omega) la).2.2.2.2.2.2.1
  refine (Ca_sendAlong_0 (Ca_sendAlong_1 (Ca_sendAlong_2 (Ca_sendAlong_3 (Ca_sendAlong_5 (Ca_sendAlong_6 ?_))))))
  refine send_1 (g0 := g0) B 6 g0 0 a most rk6 (by omega) la (by omega) m0 (fun q' v' s' h1 h2 h3 => ?_)
  refine (Ca_sendAlong_59 (Ca_sendAlong_60 (Ca_sendAlong_62 (Ca_sendAlong_63 ?_))))
  exact send_2 (g0 := g0) (most := most) W12 D6 B hk0 6 g0 0 a h xz _ rk6 (by omega) la (by omega) ⟨fun _ _ => rfl, rfl⟩ R (fun H' f1 f2 => K q' H' h1 h2 h3 f1 f2)
end SA
