/-! the ways and the stores, as the class lays them for a load -/
section LW
variable {X : SX} {d g D W keep : Nat} {h : HH} {Q : Int32 → HH → Prop} {f t : Nat → Nat} {k cp sp pt : Nat → Int}
theorem Ca_layEdge_c {e : Nat} {x a b : Int32} {p : Int64} (e1 : x = nI e) (he : e < 30) (kk : Q 0 (pL (pI (pI h 45 e a) 46 e b) 48 e p)) : E X d Ca_layEdge 0 [.ref 43, .int x, .int a, .int b, .long p, U0] [] h Q := by
  subst e1
  refine (Ca_layEdge_0 (Ca_layEdge_1 (Ca_layEdge_4 (Ca_layEdge_5 (Ca_layEdge_6n (by first | assumption | exact rfl) (by omega) (Ca_layEdge_7 (Ca_layEdge_8 (Ca_layEdge_11 (Ca_layEdge_12 (Ca_layEdge_13n (by first | assumption | exact rfl) (by omega) (Ca_layEdge_14 (Ca_layEdge_15 (Ca_layEdge_18 (Ca_layEdge_19 (Ca_layEdge_21n (by first | assumption | exact rfl) (by omega) (Ca_layEdge_22 ?_))))))))))))))))
  exact kk
def mx (x y : Int32) : Int32 := if x < y then y else x
theorem JM_max_c {x y : Int32} (q : Q (mx x y) h) : E X d JM_max 0 [.int x, .int y] [] h Q := by
  unfold mx at q
  refine (JM_max_0 (JM_max_1 (JM_max_2 (fun c2 => (JM_max_9 (JM_max_10 ?_))) (fun c2 => (JM_max_5 (JM_max_6 (JM_max_10 ?_)))))))
  · rw [if_pos c2] at q; exact q
  · rw [if_neg c2] at q; exact q
/-- what the class reads for a load -/
def LdH (h : HH) (f t : Nat → Nat) (k cp sp : Nat → Int) (W D g keep : Nat) : Prop :=
  W ≤ 12 ∧ D ≤ 6 ∧ g < D ∧ keep ≤ 99999 ∧ h.1 11 4 = nI W ∧ h.1 2 1 = nI D ∧
  (∀ w, w < W → f w < D ∧ t w < D ∧ f w ≠ t w ∧ h.1 12 w = nI (f w) ∧ h.1 13 w = nI (t w) ∧ (h.1 14 w).toInt = cp w ∧ 1 ≤ cp w ∧ cp w ≤ 999 ∧ 1 ≤ (h.1 15 w).toInt ∧ (h.1 15 w).toInt ≤ 99 ∧ k w = (h.1 15 w).toInt * 531441 + 3 ^ (11 - w)) ∧
  ∀ d, d < D → 0 ≤ (h.1 3 (d * 15 + 0)).toInt ∧ (h.1 3 (d * 15 + 0)).toInt ≤ 99999 ∧ 0 ≤ sp d ∧ (d = g → sp d = 0) ∧ (d ≠ g → (h.1 3 (d * 15 + 0)).toInt ≤ keep → sp d = 0) ∧ (d ≠ g → keep ≤ (h.1 3 (d * 15 + 0)).toInt → sp d = (h.1 3 (d * 15 + 0)).toInt - keep)
def LWi (h H : HH) (f t : Nat → Nat) (k : Nat → Int) (n : Nat) : Prop :=
  (∀ r, r ≠ 45 → r ≠ 46 → r ≠ 47 → H.1 r = h.1 r) ∧ (∀ r, r ≠ 48 → H.2 r = h.2 r) ∧ (∀ e, n ≤ e → H.1 47 e = h.1 47 e) ∧
  ∀ w, w < n → H.1 45 w = nI (f w) ∧ H.1 45 (12 + w) = nI (t w) ∧ H.1 46 w = nI (t w) ∧ H.1 46 (12 + w) = nI (f w) ∧ (H.2 48 w).toInt = k w ∧ (H.2 48 (12 + w)).toInt = - k w ∧ H.1 47 w = h.1 14 w
theorem LWi_s {w : Nat} {H H' : HH} {p : Int64} (w12 : w < 12) (I : LWi h H f t k w) (m2 : p.toInt = k w) (m3 : (-p).toInt = - k w)
    (hx : ∀ r b, H'.1 r b = if r = 47 ∧ b = w then H.1 14 w else if r = 46 ∧ b = 12 + w then H.1 12 w else if r = 45 ∧ b = 12 + w then H.1 13 w else if r = 46 ∧ b = w then H.1 13 w else if r = 45 ∧ b = w then H.1 12 w else H.1 r b)
    (hy : ∀ r b, H'.2 r b = if r = 48 ∧ b = 12 + w then -p else if r = 48 ∧ b = w then p else H.2 r b) (x12 : H.1 12 w = nI (f w)) (x13 : H.1 13 w = nI (t w)) (x14 : H.1 14 w = h.1 14 w) : LWi h H' f t k (w + 1) := by
  obtain ⟨i1, i2, i3, i4⟩ := I
  refine ⟨fun r a b c => ?_, fun r a => ?_, fun e he => ?_, fun y hy' => ?_⟩
  · rw [← i1 r a b c]
    funext y
    rw [hx, if_neg (by omega), if_neg (by omega), if_neg (by omega), if_neg (by omega), if_neg (by omega)]
  · rw [← i2 r a]
    funext y
    rw [hy, if_neg (by omega), if_neg (by omega)]
  · rw [← i3 e (by omega), hx, if_neg (by omega), if_neg (by omega), if_neg (by omega), if_neg (by omega), if_neg (by omega)]
  · by_cases z : y = w
    · subst z
      refine ⟨?_, ?_, ?_, ?_, ?_, ?_, ?_⟩
      · rw [hx, if_neg (by omega), if_neg (by omega), if_neg (by omega), if_neg (by omega), if_pos (by omega)]; exact x12
      · rw [hx, if_neg (by omega), if_neg (by omega), if_pos (by omega)]; exact x13
      · rw [hx, if_neg (by omega), if_neg (by omega), if_neg (by omega), if_pos (by omega)]; exact x13
      · rw [hx, if_neg (by omega), if_pos (by omega)]; exact x12
      · rw [hy, if_neg (by omega), if_pos (by omega)]; exact m2
      · rw [hy, if_pos (by omega)]; exact m3
      · rw [hx, if_pos (by omega)]; exact x14
    · obtain ⟨b1, b2, b3, b4, b5, b6, b7⟩ := i4 y (by omega)
      have z12 : ¬ 12 + y = 12 + w := fun v => z (Nat.add_left_cancel v)
      refine ⟨?_, ?_, ?_, ?_, ?_, ?_, ?_⟩
      · rw [hx, if_neg (by omega), if_neg (by omega), if_neg (by omega), if_neg (by omega), if_neg (by omega)]; exact b1
      · rw [hx, if_neg (by omega), if_neg (by omega), if_neg (fun v => z12 v.2), if_neg (by omega), if_neg (by omega)]; exact b2
      · rw [hx, if_neg (by omega), if_neg (by omega), if_neg (by omega), if_neg (by omega), if_neg (by omega)]; exact b3
      · rw [hx, if_neg (by omega), if_neg (fun v => z12 v.2), if_neg (by omega), if_neg (by omega), if_neg (by omega)]; exact b4
      · rw [hy, if_neg (by omega), if_neg (by omega)]; exact b5
      · rw [hy, if_neg (fun v => z12 v.2), if_neg (by omega)]; exact b6
      · rw [hx, if_neg (by omega), if_neg (by omega), if_neg (by omega), if_neg (by omega), if_neg (by omega)]; exact b7
theorem kPows_i : ∀ w, w < 12 → (kPows w).toInt = 3 ^ (11 - w) ∧ (1 : Int) ≤ 3 ^ (11 - w) ∧ (3 : Int) ^ (11 - w) ≤ 177147 := by decide
theorem layWays_l (L : LdH h f t k cp sp W D g keep) (K : ∀ H, LWi h H f t k W → Q 0 H) : ∀ (n w : Nat) (H : HH) (a3 : Value), w + n = W → LWi h H f t k w → E X (d + 1) Ca_layWays 2 [.ref 43, .ref 11, .int (nI w), a3, U0] [] H Q := by
  obtain ⟨W12, D6, gD, kp, hW, hD, en, st⟩ := L
  intro n
  induction n with
  | zero =>
    intro w H a3 hw I
    obtain rfl : w = W := by omega
    have x4 : H.1 11 4 = nI w := by rw [I.1 11 (by omega) (by omega) (by omega)]; exact hW
    refine (Ca_layWays_2 (Ca_layWays_3 (Ca_layWays_4 (Ca_layWays_7 (fun c7 => (Ca_layWays_86 ?_)) (fun c7 => ?_)))))
    · exact K H I
    · rw [x4] at c7; exact absurd (Int32.le_refl _) c7
  | succ n ih =>
    intro w H a3 hw I
    have x4 : H.1 11 4 = nI W := by rw [I.1 11 (by omega) (by omega) (by omega)]; exact hW
    obtain ⟨f1, f2, f3, f4, f5, f6, f7, f8, f9, f10, f11⟩ := en w (by omega)
    obtain ⟨p1, p2, p3⟩ := kPows_i w (by omega)
    refine (Ca_layWays_2 (Ca_layWays_3 (Ca_layWays_4 (Ca_layWays_7 (fun c7 => (Ca_layWays_86 ?_)) (fun c7 => (Ca_layWays_10 (Ca_layWays_11 (Ca_layWays_14 (Ca_layWays_15n (by first | assumption | exact rfl) (by omega) (Ca_layWays_16 (Ca_layWays_17 (Ca_layWays_20 (Ca_layWays_21 (Ca_layWays_24 (Ca_layWays_25n (by first | assumption | exact rfl) (by omega) (Ca_layWays_26 (Ca_layWays_27 (Ca_layWays_28 (Ca_layWays_29 (Ca_layWays_30 (Ca_layWays_31 (Ca_layWays_34 (Ca_layWays_35n (by first | assumption | exact rfl) (by omega) (Ca_layWays_36 (Ca_layWays_37 (Ca_layWays_40 (Ca_layWays_41n (by first | assumption | exact rfl) (by omega) (Ca_layWays_42 (Ca_layWays_43 (Nat.le_of_ble_eq_true rfl) (Ca_layEdge_c (by first | assumption | exact rfl) (by omega) (Ca_layWays_46 (Ca_layWays_47 (Ca_layWays_49 (Ca_layWays_50 (Ca_layWays_51 (Ca_layWays_52 (Ca_layWays_55 (Ca_layWays_56n (by first | assumption | exact rfl) (by omega) (Ca_layWays_57 (Ca_layWays_58 (Ca_layWays_61 (Ca_layWays_62n (by first | assumption | exact rfl) (by omega) (Ca_layWays_63 (Ca_layWays_64 (Ca_layWays_65 (Nat.le_of_ble_eq_true rfl) (Ca_layEdge_c (nI_addE (show (12 : Int32) = nI 12 from rfl) (by first | assumption | exact rfl)) (by omega) (Ca_layWays_68 (Ca_layWays_69 (Ca_layWays_72 (Ca_layWays_73 (Ca_layWays_74 (Ca_layWays_77 (Ca_layWays_78n (by first | assumption | exact rfl) (by omega) (Ca_layWays_79n (by first | assumption | exact rfl) (by omega) (Ca_layWays_80 (Ca_layWays_83 ?_))))))))))))))))))))))))))))))))))))))))))))))))))))))))
    · rw [x4] at c7
      exact absurd ((leN rfl rfl (by omega) (by omega)).mp c7) (by omega)
    · have p0 : (531441 : Int64).toInt = 531441 := by decide
      have x15 : (h.1 15 w).toInt64.toInt = (h.1 15 w).toInt := Int32.toInt_toInt64 _
      have m1 : ((h.1 15 w).toInt64 * 531441).toInt = (h.1 15 w).toInt * 531441 := by rw [i64_mul (by rw [x15, p0]; omega) (by rw [x15, p0]; omega), x15, p0]
      have m2 : ((h.1 15 w).toInt64 * 531441 + kPows w).toInt = k w := by rw [i64_add (by rw [m1, p1]; omega) (by rw [m1, p1]; omega), m1, p1, f11]
      have m3 : (-((h.1 15 w).toInt64 * 531441 + kPows w)).toInt = - k w := by rw [i64_neg (by rw [m2]; omega) (by rw [m2]; omega), m2]
      have x12 : H.1 12 w = nI (f w) := by rw [I.1 12 (by omega) (by omega) (by omega)]; exact f4
      have x13 : H.1 13 w = nI (t w) := by rw [I.1 13 (by omega) (by omega) (by omega)]; exact f5
      have x14 : H.1 14 w = h.1 14 w := by rw [I.1 14 (by omega) (by omega) (by omega)]
      rw [nI_1]
      refine ih (w + 1) _ _ (by omega) (LWi_s (by omega) (p := (H.1 15 w).toInt64 * 531441 + kPows w) I ?_ ?_ (fun _ _ => rfl) (fun _ _ => rfl) x12 x13 x14)
      · rw [I.1 15 (by omega) (by omega) (by omega)]; exact m2
      · rw [I.1 15 (by omega) (by omega) (by omega)]; exact m3
def LGi (h H : HH) (sp : Nat → Int) (n : Nat) : Prop :=
  (∀ r, r ≠ 45 → r ≠ 46 → r ≠ 47 → H.1 r = h.1 r) ∧ (∀ r, r ≠ 48 → H.2 r = h.2 r) ∧ (∀ r e, e < 24 ∨ 24 + n ≤ e → H.1 r e = h.1 r e) ∧ (∀ r e, e < 24 → H.2 r e = h.2 r e) ∧
  ∀ w, w < n → H.1 45 (24 + w) = nI 6 ∧ H.1 46 (24 + w) = nI w ∧ (H.2 48 (24 + w)).toInt = 0 ∧ H.1 47 (24 + w) = Int32.ofInt (sp w)
theorem LGi_s {w : Nat} {H H' : HH} {r0 : Int32} (I : LGi h H sp w) (hr : r0 = Int32.ofInt (sp w))
    (hx : ∀ r b, H'.1 r b = if r = 47 ∧ b = 24 + w then r0 else if r = 46 ∧ b = 24 + w then nI w else if r = 45 ∧ b = 24 + w then nI 6 else H.1 r b)
    (hy : ∀ r b, H'.2 r b = if r = 48 ∧ b = 24 + w then 0 else H.2 r b) : LGi h H' sp (w + 1) := by
  obtain ⟨i1, i2, i3, i5, i4⟩ := I
  refine ⟨fun r a b c => ?_, fun r a => ?_, fun r e he => ?_, fun r e he => ?_, fun y hy' => ?_⟩
  · rw [← i1 r a b c]
    funext y
    rw [hx, if_neg (by omega), if_neg (by omega), if_neg (by omega)]
  · rw [← i2 r a]
    funext y
    rw [hy, if_neg (by omega)]
  · have ne : ¬ e = 24 + w := by omega
    rw [← i3 r e (by omega), hx, if_neg (fun v => ne v.2), if_neg (fun v => ne v.2), if_neg (fun v => ne v.2)]
  · have ne : ¬ e = 24 + w := by omega
    rw [← i5 r e (by omega), hy, if_neg (fun v => ne v.2)]
  · by_cases z : y = w
    · subst z
      refine ⟨?_, ?_, ?_, ?_⟩
      · rw [hx, if_neg (by omega), if_neg (by omega), if_pos (by omega)]
      · rw [hx, if_neg (by omega), if_pos (by omega)]
      · rw [hy, if_pos (by omega)]; rfl
      · rw [hx, if_pos (by omega)]; exact hr
    · obtain ⟨b1, b2, b3, b4⟩ := i4 y (by omega)
      have ne : ¬ 24 + y = 24 + w := fun v => z (Nat.add_left_cancel v)
      refine ⟨?_, ?_, ?_, ?_⟩
      · rw [hx, if_neg (fun v => ne v.2), if_neg (fun v => ne v.2), if_neg (fun v => ne v.2)]; exact b1
      · rw [hx, if_neg (fun v => ne v.2), if_neg (fun v => ne v.2), if_neg (fun v => ne v.2)]; exact b2
      · rw [hy, if_neg (fun v => ne v.2)]; exact b3
      · rw [hx, if_neg (fun v => ne v.2), if_neg (fun v => ne v.2), if_neg (fun v => ne v.2)]; exact b4
theorem layGiven_l (L : LdH h f t k cp sp W D g keep) (K : ∀ H, LGi h H sp D → Q 0 H) : ∀ (n w : Nat) (H : HH), w + n = D → LGi h H sp w → E X (d + 2) Ca_layGiven 3 [.ref 43, .ref 2, .int (nI g), .int (nI keep), .int (nI w)] [] H Q := by
  obtain ⟨W12, D6, gD, kp, hW, hD, en, st⟩ := L
  intro n
  induction n with
  | zero =>
    intro w H hw I
    obtain rfl : w = D := by omega
    have x4 : H.1 2 1 = nI w := by rw [I.1 2 (by omega) (by omega) (by omega)]; exact hD
    refine (Ca_layGiven_3 (Ca_layGiven_5 (Ca_layGiven_6 (Ca_layGiven_9 (fun c9 => (Ca_layGiven_65 ?_)) (fun c9 => ?_)))))
    · exact K H I
    · rw [x4] at c9; exact absurd (Int32.le_refl _) c9
  | succ n ih =>
    intro w H hw I
    have x4 : H.1 2 1 = nI D := by rw [I.1 2 (by omega) (by omega) (by omega)]; exact hD
    obtain ⟨s1, s2, s3, s4, s5, s6⟩ := st w (by omega)
    refine (Ca_layGiven_3 (Ca_layGiven_5 (Ca_layGiven_6 (Ca_layGiven_9 (fun c9 => (Ca_layGiven_65 ?_)) (fun c9 => (Ca_layGiven_12 (Ca_layGiven_13 (Ca_layGiven_15 (Ca_layGiven_17 (Ca_layGiven_18 (Ca_layGiven_20 (Ca_layGiven_22 (Ca_layGiven_23 (Nat.le_of_ble_eq_true rfl) (Ca_layEdge_c (nI_addE (show (24 : Int32) = nI 24 from rfl) (by first | assumption | exact rfl)) (by omega) (Ca_layGiven_26 (Ca_layGiven_27 (Ca_layGiven_30 (Ca_layGiven_32 (Ca_layGiven_34 (Ca_layGiven_35 (Ca_layGiven_37 (Ca_layGiven_38 (fun c38 => (Ca_layGiven_45 (Ca_layGiven_46 (Ca_layGiven_47 (Ca_layGiven_49 (Ca_layGiven_50 (Nat.le_of_ble_eq_true rfl) (La_get_e isLa2 (by first | assumption | exact rfl) (show (0 : Int32) = nI 0 from rfl) (by omega) (by omega) (Ca_layGiven_53 (Ca_layGiven_54 (Ca_layGiven_55 (Nat.le_of_ble_eq_true rfl) (JM_max_c (Ca_layGiven_58n (nI_addE (show (24 : Int32) = nI 24 from rfl) (by first | assumption | exact rfl)) (by omega) (Ca_layGiven_59 (Ca_layGiven_62 ?_)))))))))))))) (fun c38 => (Ca_layGiven_41 (Ca_layGiven_42 (Ca_layGiven_58n (nI_addE (show (24 : Int32) = nI 24 from rfl) (by first | assumption | exact rfl)) (by omega) (Ca_layGiven_59 (Ca_layGiven_62 ?_))))))))))))))))))))))))))))
    · rw [x4] at c9
      exact absurd ((leN rfl rfl (by omega) (by omega)).mp c9) (by omega)
    · have nw : ¬ w = g := fun z => c38 (by rw [z])
      rw [nI_1]
      refine ih (w + 1) _ (by omega) (LGi_s I ?_ (fun _ _ => rfl) (fun _ _ => rfl))
      show mx 0 (H.1 3 (w * 15 + 0) - nI keep) = Int32.ofInt (sp w)
      have k0 : (nI keep).toInt = keep := nI_toInt (by omega)
      rw [I.1 3 (by omega) (by omega) (by omega)]
      have sb : (h.1 3 (w * 15 + 0) - nI keep).toInt = (h.1 3 (w * 15 + 0)).toInt - keep := by rw [i32_sub (by rw [k0]; omega) (by rw [k0]; omega), k0]
      have z0 : (0 : Int32).toInt = 0 := by decide
      unfold mx
      by_cases c : 0 < h.1 3 (w * 15 + 0) - nI keep
      · have c' := (fa_lt _ _).mp c
        rw [z0, sb] at c'
        rw [if_pos c, s6 nw (by omega), ← sb, Int32.ofInt_toInt]
      · have c' : ¬ (0 : Int32).toInt < (h.1 3 (w * 15 + 0) - nI keep).toInt := fun z => c ((fa_lt _ _).mpr z)
        rw [z0, sb] at c'
        rw [if_neg c, s5 nw (by omega)]; rfl
    · obtain rfl : w = g := (eqN rfl rfl (by omega) (by omega)).mp c38
      rw [nI_1]
      refine ih (w + 1) _ (by omega) (LGi_s (r0 := 0) I (by rw [s4 rfl]; rfl) (fun _ _ => rfl) (fun _ _ => rfl))
theorem layWays_c (L : LdH h f t k cp sp W D g keep) (K : ∀ H, LWi h H f t k W → Q 0 H) : E X (d + 1) Ca_layWays 0 [.ref 43, .ref 11, U0, U0, U0] [] h Q := by
  refine (Ca_layWays_0 (Ca_layWays_1 ?_))
  exact layWays_l L K W 0 h _ (by omega) ⟨fun _ _ _ _ => rfl, fun _ _ => rfl, fun _ _ => rfl, fun w hw => absurd hw (by omega)⟩
theorem layGiven_c (L : LdH h f t k cp sp W D g keep) (K : ∀ H, LGi h H sp D → Q 0 H) : E X (d + 2) Ca_layGiven 0 [.ref 43, .ref 2, .int (nI g), .int (nI keep), U0] [] h Q := by
  refine (Ca_layGiven_0 (Ca_layGiven_1 ?_))
  exact layGiven_l L K D 0 h (by omega) ⟨fun _ _ _ _ => rfl, fun _ _ => rfl, fun _ _ _ => rfl, fun _ _ _ => rfl, fun w hw => absurd hw (by omega)⟩
end LW
