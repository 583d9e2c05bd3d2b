/-! a load and the invariant -/
section LU
variable {X : SX} {d g D W keep : Nat} {h : HH} {Q : Int32 → HH → Prop} {f t : Nat → Nat} {p k cp sp : Nat → Int}
/-- the rows that no promise reads -/
theorem Inv_ld {h' : HH} (e : ∀ r, r ≠ 44 → r ≠ 45 → r ≠ 46 → r ≠ 47 → r ≠ 50 → r ≠ 87 → r ≠ 88 → r ≠ 89 → r ≠ 90 → r ≠ 91 → h'.1 r = h.1 r) (hi : Inv h) : Inv h' := by
  have g : ∀ r, r < 44 ∨ (50 < r ∧ r < 87) ∨ 91 < r → h'.1 r = h.1 r := fun r hr => e r (by omega) (by omega) (by omega) (by omega) (by omega) (by omega) (by omega) (by omega) (by omega) (by omega)
  obtain ⟨D, w, S, L, W, K, hm, hc, hl, hs, hn, hw, hk, ha, hx, hh, hp⟩ := hi
  refine ⟨D, w, S, L, W, K, iMisc_cg ?_ hm, iCnt_cg ?_ hc, iLand_cg ?_ hl, iSigns_cg ?_ (fun k _ => ?_) hs, iLines_cg ?_ (fun k _ => ?_) hn, iWays_cg ?_ (fun k _ => ?_) hw, iWorks_cg ?_ (fun k _ => ?_) hk, iWas_cg ?_ ha, iAct_cg ?_ hx, iSheet_cg ?_ hh, iKept_cg (Nat.le_refl _) (Nat.le_refl _) (Nat.le_refl _) (Nat.le_refl _) ?_ (fun k _ => ?_) (fun k _ => ?_) (fun k _ => ?_) (fun k _ => ?_) hp⟩
  all_goals repeat' apply And.intro
  all_goals first | exact g _ (by omega) | exact congrFun (g _ (by omega)) _
/-- the tons as a sum by districts -/
def sf (f t : Nat → Nat) (x : Nat → Int) (n d : Nat) : Int := smI (fun w => (if t w = d then x w else 0) - (if f w = d then x w else 0)) n
theorem sf_s {x : Nat → Int} {n d : Nat} : sf f t x (n + 1) d = sf f t x n d + ((if t n = d then x n else 0) - (if f n = d then x n else 0)) := rfl
theorem priceOf_l {x : Nat → Int} (W12 : W ≤ 12) (hW : h.1 11 4 = nI W) (x44 : ∀ w, w < W → (h.1 44 w).toInt = x w) (x15 : ∀ w, w < W → (h.1 15 w).toInt = p w) (K : Q (Int32.ofInt (kc p W x)) h) : ∀ (n w : Nat) (s : Int32), w + n = W → s = Int32.ofInt (kc p w x) → E X d Ca_priceOf 4 [.ref 43, .ref 11, .int s, .int (nI w)] [] h Q := by
  intro n
  induction n with
  | zero =>
    intro w s hw hs
    obtain rfl : w = W := by omega
    refine (Ca_priceOf_4 (Ca_priceOf_5 (Ca_priceOf_6 (Ca_priceOf_9 (fun c9 => (Ca_priceOf_34 (Ca_priceOf_35 ?_))) (fun c9 => ?_)))))
    · rw [hs]; exact K
    · rw [hW] at c9; exact absurd (Int32.le_refl _) c9
  | succ n ih =>
    intro w s hw hs
    refine (Ca_priceOf_4 (Ca_priceOf_5 (Ca_priceOf_6 (Ca_priceOf_9 (fun c9 => (Ca_priceOf_34 (Ca_priceOf_35 ?_))) (fun c9 => (Ca_priceOf_12 (Ca_priceOf_13 (Ca_priceOf_14 (Ca_priceOf_17 (Ca_priceOf_18n (by first | assumption | exact rfl) (by omega) (Ca_priceOf_19 (Ca_priceOf_20 (Ca_priceOf_23 (Ca_priceOf_24n (by first | assumption | exact rfl) (by omega) (Ca_priceOf_25 (Ca_priceOf_26 (Ca_priceOf_27 (Ca_priceOf_28 (Ca_priceOf_31 ?_)))))))))))))))))))
    · rw [hW] at c9; exact absurd ((leN rfl rfl (by omega) (by omega)).mp c9) (by omega)
    · rw [nI_1]
      refine ih (w + 1) _ (by omega) ?_
      show _ = Int32.ofInt (kc p w x + p w * x w)
      rw [Int32.ofInt_add, hs, ← x44 w (by omega), ← x15 w (by omega), Int.mul_comm, Int32.ofInt_mul, Int32.ofInt_toInt, Int32.ofInt_toInt]
theorem priceOf_c {x : Nat → Int} (W12 : W ≤ 12) (hW : h.1 11 4 = nI W) (x44 : ∀ w, w < W → (h.1 44 w).toInt = x w) (x15 : ∀ w, w < W → (h.1 15 w).toInt = p w) (K : Q (Int32.ofInt (kc p W x)) h) : E X d Ca_priceOf 0 [.ref 43, .ref 11, U0, U0] [] h Q := by
  refine (Ca_priceOf_0 (Ca_priceOf_1 (Ca_priceOf_2 (Ca_priceOf_3 ?_))))
  exact priceOf_l W12 hW x44 x15 K W 0 0 (by omega) rfl
/-- the stores after n ways -/
def DrC (h H : HH) (f t : Nat → Nat) (x : Nat → Int) (n : Nat) : Prop :=
  (∀ r, r ≠ 3 → H.1 r = h.1 r) ∧ (∀ j, j < 6 → H.1 3 (j * 15 + 0) = Int32.ofInt ((h.1 3 (j * 15 + 0)).toInt + sf f t x n j)) ∧ ∀ b, (∀ j, j < 6 → b ≠ j * 15 + 0) → H.1 3 b = h.1 3 b
theorem sf_ofI {x : Nat → Int} {s : Int} {n j : Nat} {v : Int32} (ft : f n ≠ t n) (e : v = Int32.ofInt (x n)) : Int32.ofInt (s + sf f t x (n + 1) j) = if j = t n then Int32.ofInt (s + sf f t x n j) + v else if j = f n then Int32.ofInt (s + sf f t x n j) + -v else Int32.ofInt (s + sf f t x n j) := by
  rw [sf_s]
  by_cases z1 : t n = j
  · rw [if_pos z1, if_neg (show ¬ f n = j by omega), if_pos z1.symm, e, ← Int32.ofInt_add]
    congr 1; omega
  · rw [if_neg z1, if_neg (show ¬ j = t n by omega)]
    by_cases z2 : f n = j
    · rw [if_pos z2, if_pos z2.symm, e, ← Int32.sub_eq_add_neg, ← Int32.ofInt_sub]
      congr 1; omega
    · rw [if_neg z2, if_neg (show ¬ j = f n by omega)]
      congr 1; omega
theorem drive_l {x : Nat → Int} (W12 : W ≤ 12) (D6 : D ≤ 6) (hW : h.1 11 4 = nI W) (en : ∀ w, w < W → f w < D ∧ t w < D ∧ f w ≠ t w ∧ h.1 12 w = nI (f w) ∧ h.1 13 w = nI (t w)) (x44 : ∀ w, w < W → (h.1 44 w).toInt = x w) (K : ∀ H, DrC h H f t x W → Q 0 H) : ∀ (n w : Nat) (H : HH), w + n = W → DrC h H f t x w → E X (d + 3) Ca_drive 2 [.ref 43, .ref 2, .ref 11, .int (nI w)] [] H Q := by
  intro n
  induction n with
  | zero =>
    intro w H hw I
    obtain rfl : w = W := by omega
    have x1 : H.1 11 4 = nI w := by rw [I.1 11 (by omega)]; exact hW
    refine (Ca_drive_2 (Ca_drive_3 (Ca_drive_4 (Ca_drive_7 (fun c7 => (Ca_drive_51 ?_)) (fun c7 => ?_)))))
    · exact K H I
    · rw [x1] at c7; exact absurd (Int32.le_refl _) c7
  | succ n ih =>
    intro w H hw I
    have x1 : H.1 11 4 = nI W := by rw [I.1 11 (by omega)]; exact hW
    obtain ⟨i1, i2, i3⟩ := I
    obtain ⟨f1, f2, f3, f4, f5⟩ := en w (by omega)
    have x12 : H.1 12 w = nI (f w) := by rw [i1 12 (by omega)]; exact f4
    have x13 : H.1 13 w = nI (t w) := by rw [i1 13 (by omega)]; exact f5
    have xx : H.1 44 w = Int32.ofInt (x w) := by rw [i1 44 (by omega), ← x44 w (by omega), Int32.ofInt_toInt]
    refine (Ca_drive_2 (Ca_drive_3 (Ca_drive_4 (Ca_drive_7 (fun c7 => (Ca_drive_51 ?_)) (fun c7 => (Ca_drive_10 (Ca_drive_11 (Ca_drive_12 (Ca_drive_15 (Ca_drive_16n (by first | assumption | exact rfl) (by omega) (Ca_drive_17 (Ca_drive_18 (Ca_drive_19 (Ca_drive_22 (Ca_drive_23n (by first | assumption | exact rfl) (by omega) (Ca_drive_24 (Ca_drive_25 (Nat.le_of_ble_eq_true rfl) ?_)))))))))))))))))
    · rw [x1] at c7; exact absurd ((leN rfl rfl (by omega) (by omega)).mp c7) (by omega)
    · rw [x12]
      refine La_more_c (a := f w) (b := 0) isLa2 (by omega) (by omega) ?_
      refine (Ca_drive_28 (Ca_drive_29 (Ca_drive_30 (Ca_drive_33 (Ca_drive_34n (by first | assumption | exact rfl) (by omega) (Ca_drive_35 (Ca_drive_36 (Ca_drive_37 (Ca_drive_40 (Ca_drive_41n (by first | assumption | exact rfl) (by omega) (Ca_drive_42 (Nat.le_of_ble_eq_true rfl) ?_)))))))))))
      rw [show ∀ v, (pI H 3 (f w * 15 + 0) v).1 13 w = nI (t w) from fun v => by rw [pI_r (by omega)]; exact x13, show ∀ v, (pI H 3 (f w * 15 + 0) v).1 44 w = H.1 44 w from fun v => by rw [pI_r (by omega)]]
      refine La_more_c (a := t w) (b := 0) isLa2 (by omega) (by omega) ?_
      refine (Ca_drive_45 (Ca_drive_48 ?_))
      rw [nI_1]
      refine ih (w + 1) _ (by omega) ⟨fun r hr => by rw [pI_r hr, pI_r hr]; exact i1 r hr, fun j hj => ?_, fun b hb => ?_⟩
      · rw [sf_ofI f3 xx, ← i2 j hj]
        simp only [pI1, true_and]
        by_cases z1 : j = t w
        · subst z1
          rw [if_pos rfl, if_pos rfl, if_neg (by omega)]
        · rw [if_neg (show ¬ j * 15 + 0 = t w * 15 + 0 by omega), if_neg z1]
          by_cases z2 : j = f w
          · subst z2
            rw [if_pos rfl, if_pos rfl]
          · rw [if_neg (show ¬ j * 15 + 0 = f w * 15 + 0 by omega), if_neg z2]
      · simp only [pI1, true_and]
        have b1 := hb (t w) (by omega)
        have b2 := hb (f w) (by omega)
        rw [if_neg b1, if_neg b2]
        exact i3 b hb
theorem drive_c {x : Nat → Int} (W12 : W ≤ 12) (D6 : D ≤ 6) (hW : h.1 11 4 = nI W) (en : ∀ w, w < W → f w < D ∧ t w < D ∧ f w ≠ t w ∧ h.1 12 w = nI (f w) ∧ h.1 13 w = nI (t w)) (x44 : ∀ w, w < W → (h.1 44 w).toInt = x w) (K : ∀ H, DrC h H f t x W → Q 0 H) : E X (d + 3) Ca_drive 0 [.ref 43, .ref 2, .ref 11, U0] [] h Q := by
  refine (Ca_drive_0 (Ca_drive_1 ?_))
  refine drive_l W12 D6 hW en x44 K W 0 h (by omega) ⟨fun _ _ => rfl, fun j hj => ?_, fun _ _ => rfl⟩
  rw [show sf f t x 0 j = 0 from rfl, Int.add_zero, Int32.ofInt_toInt]
def DrM (h H : HH) (f t : Nat → Nat) (x : Nat → Int) (n : Nat) : Prop :=
  (∀ r, r ≠ 58 → H.1 r = h.1 r) ∧ ∀ j, j < 6 → H.1 58 j = Int32.ofInt ((h.1 58 j).toInt + sf f t x n j)
theorem bring_l {x : Nat → Int} {a1 a2 a3 v : Int32} (W12 : W ≤ 12) (D6 : D ≤ 6) (hW : h.1 57 31 = nI W) (en : ∀ w, w < W → f w < D ∧ t w < D ∧ f w ≠ t w ∧ h.1 80 w = nI (f w) ∧ h.1 81 w = nI (t w)) (x88 : ∀ w, w < W → (h.1 88 w).toInt = x w) (K : ∀ H, DrM h H f t x W → Q v (pI H 57 0 0)) : ∀ (n w : Nat) (H : HH), w + n = W → DrM h H f t x w → E X (d + 1) FM_bring 61 [.ref 57, .int a1, .int a2, .int a3, .int v, .int (nI w)] [] H Q := by
  intro n
  induction n with
  | zero =>
    intro w H hw I
    obtain rfl : w = W := by omega
    have x1 : H.1 57 31 = nI w := by rw [I.1 57 (by omega)]; exact hW
    refine (FM_bring_61 (FM_bring_63 (FM_bring_64 (FM_bring_67 (fun c67 => (FM_bring_120 (FM_bring_121 (FM_bring_123 (Nat.le_of_ble_eq_true rfl) (FM_done_c (FM_bring_126 ?_)))))) (fun c67 => ?_)))))
    · exact K H I
    · rw [x1] at c67; exact absurd (Int32.le_refl _) c67
  | succ n ih =>
    intro w H hw I
    have x1 : H.1 57 31 = nI W := by rw [I.1 57 (by omega)]; exact hW
    obtain ⟨i1, i2⟩ := I
    obtain ⟨f1, f2, f3, f4, f5⟩ := en w (by omega)
    have x80 : H.1 80 w = nI (f w) := by rw [i1 80 (by omega)]; exact f4
    have xx : H.1 88 w = Int32.ofInt (x w) := by rw [i1 88 (by omega), ← x88 w (by omega), Int32.ofInt_toInt]
    refine (FM_bring_61 (FM_bring_63 (FM_bring_64 (FM_bring_67 (fun c67 => (FM_bring_120 (FM_bring_121 (FM_bring_123 (Nat.le_of_ble_eq_true rfl) (FM_done_c (FM_bring_126 ?_)))))) (fun c67 => (FM_bring_70 (FM_bring_71 (FM_bring_74 (FM_bring_75 (FM_bring_78 (FM_bring_80n (by first | assumption | exact rfl) (by omega) (FM_bring_81 (FM_bring_82n (by assumption) (by omega) (FM_bring_83 (FM_bring_84 (FM_bring_87 (FM_bring_89n (by first | assumption | exact rfl) (by omega) (FM_bring_90 (FM_bring_91n (by assumption) (by omega) ?_)))))))))))))))))))
    · rw [x1] at c67; exact absurd ((leN rfl rfl (by omega) (by omega)).mp c67) (by omega)
    · have x81 : ∀ v, (pI H 58 (f w) v).1 81 w = nI (t w) := fun v => by rw [pI_r (by omega), i1 81 (by omega)]; exact f5
      have x81' := x81 (H.1 58 (f w) - H.1 88 w)
      refine (FM_bring_92 (FM_bring_93 (FM_bring_96 (FM_bring_97 (FM_bring_100 (FM_bring_102n (by first | assumption | exact rfl) (by omega) (FM_bring_103 (FM_bring_104n (by assumption) (by omega) (FM_bring_105 (FM_bring_106 (FM_bring_109 (FM_bring_111n (by first | assumption | exact rfl) (by omega) (FM_bring_112 (FM_bring_113n (by assumption) (by omega) (FM_bring_114 (FM_bring_117 ?_))))))))))))))))
      rw [nI_1]
      refine ih (w + 1) _ (by omega) ⟨fun r hr => by rw [pI_r hr, pI_r hr]; exact i1 r hr, fun j hj => ?_⟩
      rw [sf_ofI f3 xx, ← i2 j hj]
      rw [show (pI H 58 (f w) (H.1 58 (f w) - H.1 88 w)).1 88 w = H.1 88 w by rw [pI_r (by omega)]]
      simp only [pI1, true_and]
      by_cases z1 : j = t w
      · subst z1
        rw [if_pos rfl, if_pos rfl, if_neg (by omega)]
      · rw [if_neg z1, if_neg z1]
        by_cases z2 : j = f w
        · subst z2
          rw [if_pos rfl, if_pos rfl, Int32.sub_eq_add_neg]
        · rw [if_neg z2, if_neg z2]
end LU
