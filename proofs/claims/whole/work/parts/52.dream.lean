section DR
variable {X : SX} {d S w L D c m o k : Nat} {h H : HH} {Q : Int32 → HH → Prop} {wg F g v x y : Int32} {s t : EC}
theorem St_dream_i (hs : iSigns h 4 S w) (hn : iLines h 9 L 79) (hwc : w ≤ c) (hc : c < 60) (h6 : D ≤ 6) (hwg' : isN wg 0 99) (hF : ∀ i, i < L → bt F i = ((!decide (nI i = g)) && iF h (nI w) i)) (hrow : ∀ r, r < 41 ∨ 42 < r → H.1 r = h.1 r) (hD : H.1 41 1 = nI D) (hwg : H.1 41 2 = wg) (hk : ∀ d, d < D → eOk t d)
    (K : E X (d + 5) St_dream 42 [.ref 1, .ref 41, .int x, .int y, .int F, .int (nI (c + 1)), .int (nI D)] [] (sC H 41 (wkS (ob h S L (nI w) g c (nI w)) wg t D).1) Q) :
    ∀ (n i : Nat), i + n = D → E X (d + 5) St_dream 56 [.ref 1, .ref 41, .int x, .int y, .int F, .int (nI c), .int (nI i)] [] (sC H 41 (wkS (ob h S L (nI w) g c (nI w)) wg t i).1) Q := by
  intro n
  induction n with
  | zero =>
    intro i hi
    obtain rfl : i = D := by omega
    have eD : (sC H 41 (wkS (ob h S L (nI w) g c (nI w)) wg t i).1).1 41 1 = nI i := by rw [sC_low (by omega), hD]
    refine (St_dream_56 (St_dream_58 (St_dream_59 (St_dream_62 (fun c62 => (St_dream_105 (St_dream_108 ?_))) (fun c62 => ?_)))))
    · rw [nI_1]; exact K
    · rw [eD] at c62; exact absurd (Int32.le_refl _) c62
  | succ n ih =>
    intro i hi
    have hL12 := hn.1
    have hr2 : ∀ r, r < 41 ∨ 42 < r → (sC H 41 (wkS (ob h S L (nI w) g c (nI w)) wg t i).1).1 r = h.1 r := fun r hr => by rw [sC_row (by omega) (by omega), hrow r hr]
    have eD : (sC H 41 (wkS (ob h S L (nI w) g c (nI w)) wg t i).1).1 41 1 = nI D := by rw [sC_low (by omega), hD]
    have gg : sg h (sC H 41 (wkS (ob h S L (nI w) g c (nI w)) wg t i).1) := fun r r1 r2 => hr2 r (by omega)
    have ht : ∀ k, k < S → isN (h.1 69 k) 0 w := fun k hk => (hs.2.2.1 k hk).2.2.2.1
    generalize eh : sC H 41 (wkS (ob h S L (nI w) g c (nI w)) wg t i).1 = h' at *
    have hs' : iSigns h' 4 S w := iSigns_cg (by simp only [hr2 4 (by omega), hr2 (4 + 1) (by omega), hr2 (4 + 2) (by omega), hr2 (4 + 3) (by omega), hr2 (4 + 4) (by omega)]; simp) (fun k _ => by simp only [gg 66 (by omega) (by omega), gg 67 (by omega) (by omega), gg 68 (by omega) (by omega), gg 69 (by omega) (by omega), gg 70 (by omega) (by omega)]; simp) hs
    have hn' : iLines h' 9 L 79 := iLines_cg (by simp only [hr2 9 (by omega), hr2 (9 + 1) (by omega)]; simp) (fun k _ => by simp only [gg 71 (by omega) (by omega), gg 72 (by omega) (by omega), gg 73 (by omega) (by omega), gg 74 (by omega) (by omega), gg 75 (by omega) (by omega), gg 76 (by omega) (by omega), gg 77 (by omega) (by omega), gg 78 (by omega) (by omega), gg 79 (by omega) (by omega)]; simp) hn
    obtain ⟨-, ⟨p, p1, p2, pe⟩, -⟩ := wkS_ok (o := ob h S L (nI w) g c (nI w)) hwg' (hk i (by omega)) i
    refine (St_dream_56 (St_dream_58 (St_dream_59 (St_dream_62 (fun c62 => (St_dream_105 (St_dream_108 ?_))) (fun c62 => (St_dream_65 (St_dream_66 (St_dream_68 (St_dream_69 (St_dream_72 (St_dream_74 (St_dream_75 (St_dream_78 (St_dream_79 (St_dream_82 (St_dream_84 (St_dream_86 (St_dream_88 (Nat.le_of_ble_eq_true rfl) ?_))))))))))))))))))
    · rw [eD] at c62; exact absurd ((leN rfl rfl (by omega) (by omega)).mp c62) (by omega)
    · refine Co_holding_c hs' hn' rfl rfl (by omega) (by omega) ?_
      refine (St_dream_91 (St_dream_92 (Nat.le_of_ble_eq_true rfl) ?_))
      refine Co_kindsOf_c hn' ?_
      rw [tB_cg gg, gg 71 (by omega) (by omega), gg 77 (by omega) (by omega), obF hL12 hwc (by omega) ht hF]
      refine (St_dream_95 (Nat.le_of_ble_eq_true rfl) ?_)
      rw [← eh]
      refine La_pass_s (p := p) (wg := wg) isLa41 rfl (by omega) hwg pe p1 p2 ?_
      refine (St_dream_98 (St_dream_99 (St_dream_102 ?_)))
      rw [nI_1]
      exact ih (i + 1) (by omega)
theorem St_dream_o (hs : iSigns h 4 S w) (hn : iLines h 9 L 79) (hwm : w + m ≤ 60) (h6 : D ≤ 6) (hwg' : isN wg 0 99) (hF : ∀ i, i < L → bt F i = ((!decide (nI i = g)) && iF h (nI w) i)) (hwk : h.1 1 6 = nI w) (hrow : ∀ r, r < 41 ∨ 42 < r → H.1 r = h.1 r) (hD : H.1 41 1 = nI D) (hwg : H.1 41 2 = wg) (hk : ∀ d, d < D → eOk s d)
    (K : Q 0 (sC H 41 (dmS (fun k => ob h S L (nI w) g (w + k) (nI w)) wg s D m).1)) :
    ∀ (n i : Nat) (a6 : Value), i + n = m → E X (d + 5) St_dream 42 [.ref 1, .ref 41, .int x, .int (nI m), .int F, .int (nI (w + i)), a6] [] (sC H 41 (dmS (fun k => ob h S L (nI w) g (w + k) (nI w)) wg s D i).1) Q := by
  intro n
  induction n with
  | zero =>
    intro i a6 hi
    obtain rfl : i = m := by omega
    have eW : (sC H 41 (dmS (fun k => ob h S L (nI w) g (w + k) (nI w)) wg s D i).1).1 1 6 = nI w := by rw [sC_row (by omega) (by omega), hrow 1 (by omega), hwk]
    refine (St_dream_42 (St_dream_44 (St_dream_45 (St_dream_48 (St_dream_49 (St_dream_50 (fun c50 => (St_dream_111 ?_)) (fun c50 => ?_)))))))
    · exact K
    · rw [eW, nI_add] at c50; exact absurd (Int32.le_refl _) c50
  | succ n ih =>
    intro i a6 hi
    have eW : (sC H 41 (dmS (fun k => ob h S L (nI w) g (w + k) (nI w)) wg s D i).1).1 1 6 = nI w := by rw [sC_row (by omega) (by omega), hrow 1 (by omega), hwk]
    refine (St_dream_42 (St_dream_44 (St_dream_45 (St_dream_48 (St_dream_49 (St_dream_50 (fun c50 => ?_) (fun c50 => (St_dream_53 (St_dream_54 ?_)))))))))
    · rw [eW, nI_add] at c50; exact absurd ((leN rfl rfl (by omega) (by omega)).mp c50) (by omega)
    · exact St_dream_i (c := w + i) hs hn (by omega) (by omega) h6 hwg' hF hrow hD hwg (fun d hd => dmS_ok hwg' (hk d hd) i) (ih (i + 1) _ (by omega)) D 0 (by omega)
theorem La_sumOf_i (ho : isLa o) (hk : k ≤ 12) (hd : c < 6) {a1 : Int32} {a4 : Value} (e1 : v = nI k) (K : ∀ a4 : Value, E X (d + 1) La_sumOfClasses 4 [.ref o, .int v, .int (a1 + h.1 (o + 1) (c * 15 + (k + 0)) + h.1 (o + 1) (c * 15 + (k + 1)) + h.1 (o + 1) (c * 15 + (k + 2))), .int (nI (c + 1)), a4] [] h Q) : E X (d + 1) La_sumOfClasses 12 [.ref o, .int v, .int a1, .int (nI c), a4] [] h Q := by
  subst e1
  refine (La_sumOfClasses_12 (La_sumOfClasses_13 (La_sumOfClasses_15 (La_sumOfClasses_17 (La_sumOfClasses_18 (fun z => absurd z (by decide)) (fun _ => (La_sumOfClasses_21 (La_sumOfClasses_22 (La_sumOfClasses_23 (La_sumOfClasses_24 (La_sumOfClasses_25 (La_sumOfClasses_27 (La_sumOfClasses_28 ho (Nat.le_of_ble_eq_true rfl) (La_get_e ho (by first | assumption | exact rfl) (nI_addE (by first | assumption | exact rfl) (show (0 : Int32) = nI 0 from rfl)) (by omega) (by omega) (La_sumOfClasses_31 (La_sumOfClasses_32 (La_sumOfClasses_33 (La_sumOfClasses_36 (La_sumOfClasses_15 (La_sumOfClasses_17 (La_sumOfClasses_18 (fun z => absurd z (by decide)) (fun _ => (La_sumOfClasses_21 (La_sumOfClasses_22 (La_sumOfClasses_23 (La_sumOfClasses_24 (La_sumOfClasses_25 (La_sumOfClasses_27 (La_sumOfClasses_28 ho (Nat.le_of_ble_eq_true rfl) (La_get_e ho (by first | assumption | exact rfl) (nI_addE (by first | assumption | exact rfl) (show (1 : Int32) = nI 1 from rfl)) (by omega) (by omega) (La_sumOfClasses_31 (La_sumOfClasses_32 (La_sumOfClasses_33 (La_sumOfClasses_36 (La_sumOfClasses_15 (La_sumOfClasses_17 (La_sumOfClasses_18 (fun z => absurd z (by decide)) (fun _ => (La_sumOfClasses_21 (La_sumOfClasses_22 (La_sumOfClasses_23 (La_sumOfClasses_24 (La_sumOfClasses_25 (La_sumOfClasses_27 (La_sumOfClasses_28 ho (Nat.le_of_ble_eq_true rfl) (La_get_e ho (by first | assumption | exact rfl) (nI_addE (by first | assumption | exact rfl) (show (2 : Int32) = nI 2 from rfl)) (by omega) (by omega) (La_sumOfClasses_31 (La_sumOfClasses_32 (La_sumOfClasses_33 (La_sumOfClasses_36 (La_sumOfClasses_15 (La_sumOfClasses_17 (La_sumOfClasses_18 (fun _ => (La_sumOfClasses_39 (La_sumOfClasses_42 ?_))) (fun z => absurd z (by decide)))))))))))))))))))))))))))))))))))))))))))))))))))))))
  rw [nI_1]
  exact K _
theorem La_sumOf_l (ho : isLa o) (hk : k ≤ 12) (e1 : v = nI k) (hD : h.1 o 1 = nI D) (h6 : D ≤ 6) (K : Q (smC (h.1 (o + 1)) k D) h) : ∀ (n i : Nat) (a4 : Value), i + n = D → E X (d + 1) La_sumOfClasses 4 [.ref o, .int v, .int (smC (h.1 (o + 1)) k i), .int (nI i), a4] [] h Q := by
  intro n
  induction n with
  | zero =>
    intro i a4 hi
    obtain rfl : i = D := by omega
    refine (La_sumOfClasses_4 (La_sumOfClasses_5 (La_sumOfClasses_6 ho (La_sumOfClasses_9 (fun c9 => (La_sumOfClasses_45 (La_sumOfClasses_46 ?_))) (fun c9 => ?_)))))
    · exact K
    · rw [hD] at c9; exact absurd (Int32.le_refl _) c9
  | succ n ih =>
    intro i a4 hi
    refine (La_sumOfClasses_4 (La_sumOfClasses_5 (La_sumOfClasses_6 ho (La_sumOfClasses_9 (fun c9 => (La_sumOfClasses_45 (La_sumOfClasses_46 ?_))) (fun c9 => ?_)))))
    · rw [hD] at c9; exact absurd ((leN rfl rfl (by omega) (by omega)).mp c9) (by omega)
    · exact La_sumOf_i ho hk (by omega) e1 (fun a4 => ih (i + 1) a4 (by omega))
theorem La_sumOf_c (ho : isLa o) (hk : k ≤ 12) (e1 : v = nI k) (hD : h.1 o 1 = nI D) (h6 : D ≤ 6) (K : Q (smC (h.1 (o + 1)) k D) h) : E X (d + 1) La_sumOfClasses 0 [.ref o, .int v, U0, U0, U0] [] h Q := by
  refine (La_sumOfClasses_0 (La_sumOfClasses_1 (La_sumOfClasses_2 (La_sumOfClasses_3 ?_))))
  exact La_sumOf_l ho hk e1 hD h6 K D 0 _ (by omega)
/-- what sum() answers -/
def sumE (f : Nat → Int32) (p l e : Int32) (D : Nat) (x : Int32) : Int32 := if x = 0 then smC f 9 D else if x = 1 then smC f 12 D else if x = 2 then p else if x = 3 then l else e
theorem La_sum_c (ho : isLa o) (hD : h.1 o 1 = nI D) (h6 : D ≤ 6) (K : Q (sumE (h.1 (o + 1)) (h.1 o 3) (h.1 o 4) (h.1 o 5) D x) h) : E X (d + 2) La_sum 0 [.ref o, .int x] [] h Q := by
  unfold sumE at K
  refine (La_sum_0 (La_sum_1 (fun c1 => (La_sum_32 (La_sum_33 (La_sum_35 ho (Nat.le_of_ble_eq_true rfl) ?_)))) (fun c1 => (La_sum_39 (La_sum_40 (La_sum_42 ho (Nat.le_of_ble_eq_true rfl) ?_)))) (fun c1 => (La_sum_46 (La_sum_47 ho (La_sum_50 ?_)))) (fun c1 => (La_sum_51 (La_sum_52 ho (La_sum_55 ?_)))) (fun c1 => (La_sum_56 (La_sum_57 ho (La_sum_60 ?_))))))
  · rw [if_pos c1] at K
    refine La_sumOf_c (k := 9) ho (by omega) rfl hD h6 ?_
    refine (La_sum_38 ?_)
    exact K
  · subst c1
    rw [if_neg (by decide), if_pos rfl] at K
    refine La_sumOf_c (k := 12) ho (by omega) rfl hD h6 ?_
    refine (La_sum_45 ?_)
    exact K
  · subst c1; exact K
  · subst c1; exact K
  · rw [if_neg (fun z => by subst z; revert c1; decide), if_neg (fun z => by subst z; revert c1; decide), if_neg (fun z => by subst z; revert c1; decide), if_neg (fun z => by subst z; revert c1; decide)] at K
    exact K
end DR
