/-! the model's flow -/
section MF
variable {X : SX} {d g D W : Nat} {h : HH} {Q : Int32 → HH → Prop} {f t : Nat → Nat} {p cp sp pt : Nat → Int}
def lb1 (sp z : Nat → Int) (D g v : Nat) : Option Int := if v = 6 then some 0 else if v < D ∧ v ≠ g ∧ 0 < sp v - z v then some 0 else none
def FI (h H : HH) (g n : Nat) : Prop := frM h H ∧ ∀ v, v < n → H.1 91 v = -1 ∧ (v = g → H.1 90 v = 1000000000) ∧ (v ≠ g → (h.1 89 v).toInt ≤ 0 → H.1 90 v = 1000000000) ∧ (v ≠ g → 0 < (h.1 89 v).toInt → H.1 90 v = 0)
theorem FI_s {H : HH} {n : Nat} {y : Int32} (I : FI h H g n) (h1 : n = g → y = 1000000000) (h2 : n ≠ g → (h.1 89 n).toInt ≤ 0 → y = 1000000000) (h3 : n ≠ g → 0 < (h.1 89 n).toInt → y = 0) : FI h (pI (pI H 90 n y) 91 n (-1)) g (n + 1) := by
  obtain ⟨i1, i2⟩ := I
  refine ⟨⟨fun r a b => by rw [pI_r b, pI_r a]; exact i1.1 r a b, i1.2⟩, fun v hv => ?_⟩
  simp only [pI1, true_and]
  by_cases z : v = n
  · subst z
    rw [if_pos rfl, if_neg (show ¬ (90 = 91 ∧ v = v) by omega), if_pos rfl]
    exact ⟨rfl, h1, h2, h3⟩
  · rw [if_neg z, if_neg (show ¬ (91 = 90 ∧ v = n) by omega), if_neg (show ¬ (90 = 91 ∧ v = n) by omega), if_neg z]
    exact i2 v (by omega)
theorem findFar_1 (hD : h.1 57 1 = nI D) (D6 : D ≤ 6) (gD : g < D) (K : ∀ H (a2 a3 : Value), FI h H g D → E X d FM_findFar 52 [.ref 57, .int (nI g), .int (nI 0), a3] [] H Q) : ∀ (n v : Nat) (H : HH) (a3 : Value), v + n = D → FI h H g v → E X d FM_findFar 2 [.ref 57, .int (nI g), .int (nI v), a3] [] H Q := by
  intro n
  induction n with
  | zero =>
    intro v H a3 hv I
    obtain rfl : v = D := by omega
    have x1 : H.1 57 1 = nI v := by rw [I.1.1 57 (by omega) (by omega)]; exact hD
    refine (FM_findFar_2 (FM_findFar_3 (FM_findFar_4 (FM_findFar_7 (fun c7 => (FM_findFar_50 (FM_findFar_51 ?_))) (fun c7 => ?_)))))
    · exact K H a3 _ I
    all_goals (rw [x1] at c7; exact absurd (Int32.le_refl _) c7)
  | succ n ih =>
    intro v H a3 hv I
    have x1 : H.1 57 1 = nI D := by rw [I.1.1 57 (by omega) (by omega)]; exact hD
    have x89 : H.1 89 v = h.1 89 v := by rw [I.1.1 89 (by omega) (by omega)]
    have i0 : (0 : Int32).toInt = 0 := by decide
    refine (FM_findFar_2 (FM_findFar_3 (FM_findFar_4 (FM_findFar_7 (fun c7 => (FM_findFar_50 (FM_findFar_51 ?_))) (fun c7 => (FM_findFar_10 (FM_findFar_11 (FM_findFar_14 (FM_findFar_15 (FM_findFar_16 (FM_findFar_17 (fun c17 => (FM_findFar_33 (FM_findFar_36n (by first | assumption | exact rfl) (by omega) (FM_findFar_37 (FM_findFar_38 (FM_findFar_41 (FM_findFar_42 (FM_findFar_43n (by first | assumption | exact rfl) (by omega) (FM_findFar_44 (FM_findFar_47 ?_)))))))))) (fun c17 => (FM_findFar_20 (FM_findFar_21 (FM_findFar_24 (FM_findFar_25n (by first | assumption | exact rfl) (by omega) (FM_findFar_26 (fun c26 => (FM_findFar_33 (FM_findFar_36n (by first | assumption | exact rfl) (by omega) (FM_findFar_37 (FM_findFar_38 (FM_findFar_41 (FM_findFar_42 (FM_findFar_43n (by first | assumption | exact rfl) (by omega) (FM_findFar_44 (FM_findFar_47 ?_)))))))))) (fun c26 => (FM_findFar_29 (FM_findFar_30 (FM_findFar_36n (by first | assumption | exact rfl) (by omega) (FM_findFar_37 (FM_findFar_38 (FM_findFar_41 (FM_findFar_42 (FM_findFar_43n (by first | assumption | exact rfl) (by omega) (FM_findFar_44 (FM_findFar_47 ?_))))))))))))))))))))))))))))
    · rw [x1] at c7
      exact absurd ((leN rfl rfl (by omega) (by omega)).mp c7) (by omega)
    · have e : v = g := (eqN rfl rfl (by omega) (by omega)).mp c17
      subst e
      rw [nI_1]
      exact ih (v + 1) _ _ (by omega) (FI_s I (fun _ => rfl) (fun z => absurd rfl z) (fun z => absurd rfl z))
    · have q := (fa_le _ _).mp c26
      rw [x89, i0] at q
      have e : ¬ v = g := fun z => c17 (by rw [z])
      rw [nI_1]
      exact ih (v + 1) _ _ (by omega) (FI_s I (fun z => absurd z e) (fun _ _ => rfl) (fun _ y => by omega))
    · have q : ¬ (H.1 89 v).toInt ≤ (0 : Int32).toInt := fun y => c26 ((fa_le _ _).mpr y)
      rw [x89, i0] at q
      have e : ¬ v = g := fun z => c17 (by rw [z])
      rw [nI_1]
      exact ih (v + 1) _ _ (by omega) (FI_s I (fun z => absurd z e) (fun _ y => by omega) (fun _ _ => rfl))
theorem Net_erM (E0 : Ends f t W D g) {x z : Nat → Int} (V : Vali f t p cp sp W D pt x z) : Net (eU f t) (eV f t) (eC p) (erM f t cp sp W D g x z) pt D := by
  obtain ⟨W12, D6, gD, en⟩ := E0
  refine ⟨V.1, D6, fun e he re => ?_⟩
  have v := V.2.1 e he re.1
  rcases rs_cs re.1 with ⟨w, w1, w2, rfl⟩ | ⟨w, w1, w2, rfl⟩ | ⟨w, w1, rfl⟩
  · have := en _ w1
    rw [eU_f w2, eV_f w2] at *
    exact ⟨by omega, by omega, by omega, v⟩
  · have := en _ w1
    rw [eU_b w2, eV_b w2] at *
    exact ⟨by omega, by omega, by omega, v⟩
  · rw [eU_g, eV_g] at *
    exact ⟨by omega, by omega, by omega, v⟩
theorem BI_1 (E0 : Ends f t W D g) {x z : Nat → Int} (N : Net (eU f t) (eV f t) (eC p) (erM f t cp sp W D g x z) pt D) (sg : sp g - z g ≤ 0) : BI (eU f t) (eV f t) (eC p) (erM f t cp sp W D g x z) pt D 1 true (fun _ => True) (lb1 sp z D g) (fun v => 24 + v) := by
  obtain ⟨W12, D6, gD, en⟩ := E0
  have lv : ∀ v a, v ≠ 6 → lb1 sp z D g v = some a → a = 0 ∧ v < D ∧ erM f t cp sp W D g x z (24 + v) := fun v a hv la => by
    unfold lb1 at la
    rw [if_neg hv] at la
    by_cases c : v < D ∧ v ≠ g ∧ 0 < sp v - z v
    · rw [if_pos c] at la
      cases la
      refine ⟨rfl, c.1, ?_, ?_⟩
      · rw [rs_g c.1]; exact c.2.2
      · rw [eU_g]; omega
    · rw [if_neg c] at la; cases la
  have pv : ∀ v a, v ≠ 6 → lb1 sp z D g v = some a → pt v ≤ 0 := fun v a hv la => by
    obtain ⟨e1, e2, e3⟩ := lv v a hv la
    have := (N.2.2 (24 + v) (by omega) e3).2.2.2
    rw [eV_g, eU_g, eC_g, N.1] at this
    omega
  refine ⟨fun v => if v = 6 then 0 else 1, fun v => if v = 6 then 0 else 1, 2, if_pos rfl, if_pos rfl, fun v => ?_, fun v a la => ?_, fun v a hv la => ?_, fun e a he re la => ⟨fun _ ck => ?_, fun ck => absurd ck (by omega)⟩⟩
  · simp only; split <;> omega
  · by_cases c : v = 6
    · subst c
      unfold lb1 at la
      rw [if_pos rfl] at la
      cases la
      exact ⟨by rw [N.1]; exact Int.le_refl _, by simp, (fun z => by cases z), Or.inr rfl⟩
    · have := pv v a c la
      obtain ⟨e1, e2, e3⟩ := lv v a c la
      refine ⟨by omega, ?_, (fun z => by cases z), Or.inl e2⟩
      simp only; split <;> omega
  · have := pv v a hv la
    obtain ⟨e1, e2, e3⟩ := lv v a hv la
    refine ⟨by show 24 + v < 30; omega, e3, eV_g, 0, by rw [eU_g]; exact if_pos rfl, by rw [eC_g]; omega, ?_, ?_⟩
    · rw [eU_g]
      show (if v = 6 then 0 else 1 : Nat) ≤ (if (6 : Nat) = 6 then 0 else 1) + 1
      rw [if_neg hv, if_pos rfl]
      exact Nat.le_refl _
    · rw [eU_g, N.1]
      show (0 : Int) - 0 < a - pt v ∨ (0 : Int) - 0 = a - pt v ∧ (if (6 : Nat) = 6 then 0 else 1 : Nat) < (if v = 6 then 0 else 1)
      rw [if_neg hv, if_pos rfl]
      omega
  · by_cases c : eU f t e = 6
    · rcases rs_cs re.1 with ⟨w, w1, w2, rfl⟩ | ⟨w, w1, w2, rfl⟩ | ⟨w, w1, rfl⟩
      · rw [eU_f w2] at c; have := en _ w1; omega
      · rw [eU_b w2] at c; have := en _ w1; omega
      · have r := re.1
        rw [rs_g w1] at r
        rw [c] at la
        have a0 : a = 0 := by
          unfold lb1 at la
          rw [if_pos rfl] at la
          cases la; rfl
        refine ⟨0, ?_, by rw [eC_g]; omega⟩
        rw [eV_g]
        unfold lb1
        rw [if_neg (by omega), if_pos ⟨w1, fun y => by subst y; omega, r⟩]
    · simp only at ck
      rw [if_neg c] at ck
      omega
theorem findFar_c {x z : Nat → Int} (M : MdH h f t p W D g) (T : TM h cp sp W D g x z) (V : Vali f t p cp sp W D pt x z) (sg : sp g - z g ≤ 0)
    (K : ∀ H lab pd rk, frM h H → DM H lab pd 20000 D → Conv (eU f t) (eV f t) (eC p) (erM f t cp sp W D g x z) pt D lab pd rk → Q 0 H) :
    E X (d + 1) FM_findFar 0 [.ref 57, .int (nI g), U0, U0] [] h Q := by
  have M0 := M
  obtain ⟨W12, D6, gD, hW, hD, en⟩ := M
  have E0 : Ends f t W D g := ⟨W12, D6, gD, fun w hw => ⟨(en w hw).1, (en w hw).2.1, (en w hw).2.2.1⟩⟩
  have N := Net_erM E0 V
  refine (FM_findFar_0 (FM_findFar_1 ?_))
  refine findFar_1 hD D6 gD (fun H a2 a3 I => ?_) D 0 h _ (by omega) ⟨⟨fun _ _ _ => rfl, rfl⟩, fun v hv => absurd hv (by omega)⟩
  refine findFar_o M0 T N K D 0 H (lb1 sp z D g) (fun v => 24 + v) true a3 (by omega) I.1 (fun v hv => ?_) (BI_1 E0 N sg)
  obtain ⟨i1, i2, i3, i4⟩ := I.2 v hv
  have i91 : H.1 91 v = byI (24 + v) := by unfold byI; rw [if_neg (by omega), if_neg (by omega)]; exact i1
  by_cases c : v = g
  · left
    refine ⟨?_, i2 c⟩
    unfold lb1
    rw [if_neg (by omega), if_neg (fun z => z.2.1 c)]
  · have t2 := T.2 v hv c
    by_cases y : 0 < sp v - z v
    · right
      refine ⟨0, ?_, ?_, by omega, by omega, i91⟩
      · unfold lb1
        rw [if_neg (by omega), if_pos ⟨hv, c, y⟩]
      · rw [i4 c (by omega)]; rfl
    · left
      refine ⟨?_, i3 c (by omega)⟩
      unfold lb1
      rw [if_neg (by omega), if_neg (fun z => y z.2.2)]
theorem rem100 : ∀ w, w < 12 → (nI w - nI w / 100 * 100 = nI w ∧ nI (88 + (12 + w)) - nI (88 + (12 + w)) / 100 * 100 = nI w) ∧ (¬ nI w = -1 ∧ ¬ nI (88 + (12 + w)) = -1) ∧ ¬ (100 : Int32) ≤ nI w ∧ (100 : Int32) ≤ nI (88 + (12 + w)) := by decide +kernel
theorem byI_f {w : Nat} (h : w < 12) : byI w = nI w := if_pos h
theorem byI_b {w : Nat} (h : w < 12) : byI (12 + w) = nI (88 + (12 + w)) := by unfold byI; rw [if_neg (by omega), if_pos (by omega)]
theorem byI_g {w : Nat} : byI (24 + w) = -1 := by unfold byI; rw [if_neg (by omega), if_neg (by omega)]
/-- what the walk back reads -/
theorem mn_i {q y : Int32} (h1 : 0 < q.toInt) (h2 : 0 < y.toInt) : 0 < (mn q y).toInt ∧ (mn q y).toInt ≤ q.toInt ∧ (mn q y).toInt ≤ y.toInt := by
  unfold mn
  by_cases z : y < q
  · have := (fa_lt _ _).mp z
    rw [if_pos z]; omega
  · have : ¬ y.toInt < q.toInt := fun y => z ((fa_lt _ _).mpr y)
    rw [if_neg z]; omega
def Szm (f t : Nat → Nat) (p cp sp : Nat → Int) (W D g : Nat) : Prop := Ends f t W D g ∧ (∀ w, w < W → 1 ≤ p w ∧ p w ≤ 99 ∧ 0 ≤ cp w ∧ cp w ≤ 999) ∧ (∀ d, d < D → 0 ≤ sp d ∧ sp d ≤ 99999) ∧ sp g = 0
theorem widest_l {x z : Nat → Int} {lab : Nat → Option Int} {pd rk : Nat → Nat} {m c : Int} {a1 a2 : Int32} (M : MdH h f t p W D g) (S : Szm f t p cp sp W D g) (F : Feas f t cp sp W D g x z m) (T : TM h cp sp W D g x z) (L : DM h lab pd c D) (C : Conv (eU f t) (eV f t) (eC p) (erM f t cp sp W D g x z) pt D lab pd rk) :
    ∀ (n v : Nat) (a : Int) (q : Int32) (a5 : Value), rk v ≤ n → v < D → lab v = some a → 0 < q.toInt → (∀ q' : Int32, 0 < q'.toInt → q'.toInt ≤ q.toInt → pok (rs cp sp W D x z) (eU f t) pd q'.toInt n v → Q q' h) →
    E X (d + 1) FM_widest 5 [.ref 57, .int a1, .int a2, .int q, .int (nI v), a5] [] h Q := by
  obtain ⟨W12, D6, gD, hW, hD, en⟩ := M
  obtain ⟨l6, c1, c2, c3⟩ := C
  obtain ⟨F1, F2, F3⟩ := F
  intro n
  induction n with
  | zero =>
    intro v a q a5 hn hv la q0 K
    have := (c3 v a (by omega) la).2.2.2.2
    omega
  | succ n ih =>
    intro v a q a5 hn hv la q0 K
    obtain ⟨p1, p2, p3, p4, p5⟩ := c3 v a (by omega) la
    have b91 : h.1 91 v = byI (pd v) := by
      rcases L v hv with ⟨z, _⟩ | ⟨a', _, _, _, _, y⟩
      · rw [z] at la; cases la
      · exact y
    have v6 : ¬ v = 6 := by omega
    rcases rs_cs p2.1 with ⟨w, w1, w2, we⟩ | ⟨w, w1, w2, we⟩ | ⟨w, w1, we⟩
    · rw [we] at p2 p3 p4 p5
      rw [we, byI_f w2] at b91
      rw [eU_f w2] at p4 p5
      obtain ⟨⟨r1, -⟩, ⟨r2, -⟩, r3, -⟩ := rem100 w w2
      obtain ⟨e1, e2, e3, e4, e5, e6⟩ := en w w1
      obtain ⟨t1, t2⟩ := T.1 w w1
      have r0 := p2.1
      rw [rs_f w1 W12] at r0
      have fw := F1 w w1
      have cw := S.2.1 w w1
      refine (FM_widest_5 (FM_widest_6 (FM_widest_9 (FM_widest_11n (by first | assumption | exact rfl) (by omega) (FM_widest_12 (FM_widest_13 (fun c13 => ?_) (fun c13 => (FM_widest_16 (FM_widest_17 (FM_widest_20 (FM_widest_22n (by first | assumption | exact rfl) (by omega) (FM_widest_23 (FM_widest_25 (by decide) (FM_widest_26 ?_))))))))))))))
      · exact absurd (b91.symm.trans c13) r2
      · rw [b91, r1]
        refine (FM_widest_28 (FM_widest_29 (FM_widest_30 (FM_widest_31 (FM_widest_34 (FM_widest_36n (by first | assumption | exact rfl) (by omega) (FM_widest_37 (FM_widest_39 (fun c39 => (FM_widest_60 (FM_widest_61 (FM_widest_64 (FM_widest_66n (by first | assumption | exact rfl) (by omega) (FM_widest_67 (Nat.le_of_ble_eq_true rfl) (FM_least_s (FM_widest_70 (FM_widest_71 (FM_widest_72 (FM_widest_75 (FM_widest_77n (by first | assumption | exact rfl) (by omega) (FM_widest_78 (FM_widest_80 (fun _ => (FM_widest_93 (FM_widest_94 (FM_widest_97 (FM_widest_99n (by first | assumption | exact rfl) (by omega) (FM_widest_100 (FM_widest_102 ?_))))))) (fun z => absurd c39 z))))))))))))))) (fun c39 => (FM_widest_42 (FM_widest_43 (FM_widest_46 (FM_widest_48n (by first | assumption | exact rfl) (by omega) (FM_widest_49 (FM_widest_50 (FM_widest_53 (FM_widest_55n (by first | assumption | exact rfl) (by omega) (FM_widest_56 (FM_widest_57 (FM_widest_67 (Nat.le_of_ble_eq_true rfl) (FM_least_s (FM_widest_70 (FM_widest_71 (FM_widest_72 (FM_widest_75 (FM_widest_77n (by first | assumption | exact rfl) (by omega) (FM_widest_78 (FM_widest_80 (fun z => absurd z c39) (fun _ => (FM_widest_83 (FM_widest_84 (FM_widest_87 (FM_widest_89n (by first | assumption | exact rfl) (by omega) (FM_widest_90 (FM_widest_100 (FM_widest_102 ?_))))))))))))))))))))))))))))))))))))
        · rw [b91] at c39; exact absurd c39 r3
        · have sb : (h.1 87 w - h.1 88 w).toInt = cp w - x w := by rw [i32_sub (by rw [t1, t2]; omega) (by rw [t1, t2]; omega), t1, t2]
          have mt := mn_i (q := q) (y := h.1 87 w - h.1 88 w) q0 (by omega)
          rw [e4]
          refine ih (f w) _ _ _ (by omega) e1 p4 mt.1 (fun q' h1 h2 h3 => K q' h1 (by omega) (Or.inr ⟨?_, ?_⟩))
          · rw [we, rs_f w1 W12]; omega
          · rw [we, eU_f w2]; exact h3
    · rw [we] at p2 p3 p4 p5
      rw [we, byI_b w2] at b91
      rw [eU_b w2] at p4 p5
      obtain ⟨⟨-, r1⟩, ⟨-, r2⟩, -, r3⟩ := rem100 w w2
      obtain ⟨e1, e2, e3, e4, e5, e6⟩ := en w w1
      obtain ⟨t1, t2⟩ := T.1 w w1
      have r0 := p2.1
      rw [rs_b w1 W12] at r0
      refine (FM_widest_5 (FM_widest_6 (FM_widest_9 (FM_widest_11n (by first | assumption | exact rfl) (by omega) (FM_widest_12 (FM_widest_13 (fun c13 => ?_) (fun c13 => (FM_widest_16 (FM_widest_17 (FM_widest_20 (FM_widest_22n (by first | assumption | exact rfl) (by omega) (FM_widest_23 (FM_widest_25 (by decide) (FM_widest_26 ?_))))))))))))))
      · exact absurd (b91.symm.trans c13) r2
      · rw [b91, r1]
        refine (FM_widest_28 (FM_widest_29 (FM_widest_30 (FM_widest_31 (FM_widest_34 (FM_widest_36n (by first | assumption | exact rfl) (by omega) (FM_widest_37 (FM_widest_39 (fun c39 => (FM_widest_60 (FM_widest_61 (FM_widest_64 (FM_widest_66n (by first | assumption | exact rfl) (by omega) (FM_widest_67 (Nat.le_of_ble_eq_true rfl) (FM_least_s (FM_widest_70 (FM_widest_71 (FM_widest_72 (FM_widest_75 (FM_widest_77n (by first | assumption | exact rfl) (by omega) (FM_widest_78 (FM_widest_80 (fun _ => (FM_widest_93 (FM_widest_94 (FM_widest_97 (FM_widest_99n (by first | assumption | exact rfl) (by omega) (FM_widest_100 (FM_widest_102 ?_))))))) (fun z => absurd c39 z))))))))))))))) (fun c39 => (FM_widest_42 (FM_widest_43 (FM_widest_46 (FM_widest_48n (by first | assumption | exact rfl) (by omega) (FM_widest_49 (FM_widest_50 (FM_widest_53 (FM_widest_55n (by first | assumption | exact rfl) (by omega) (FM_widest_56 (FM_widest_57 (FM_widest_67 (Nat.le_of_ble_eq_true rfl) (FM_least_s (FM_widest_70 (FM_widest_71 (FM_widest_72 (FM_widest_75 (FM_widest_77n (by first | assumption | exact rfl) (by omega) (FM_widest_78 (FM_widest_80 (fun z => absurd z c39) (fun _ => (FM_widest_83 (FM_widest_84 (FM_widest_87 (FM_widest_89n (by first | assumption | exact rfl) (by omega) (FM_widest_90 (FM_widest_100 (FM_widest_102 ?_))))))))))))))))))))))))))))))))))))
        · have mt := mn_i (q := q) (y := h.1 88 w) q0 (by omega)
          rw [e5]
          refine ih (t w) _ _ _ (by omega) e2 p4 mt.1 (fun q' h1 h2 h3 => K q' h1 (by omega) (Or.inr ⟨?_, ?_⟩))
          · rw [we, rs_b w1 W12]; omega
          · rw [we, eU_b w2]; exact h3
        · rw [b91] at c39; exact absurd r3 c39
    · rw [we] at p2 p3
      rw [we, byI_g] at b91
      rw [eV_g] at p3
      subst p3
      have r0 := p2.1
      rw [rs_g w1] at r0
      have ng : w ≠ g := fun y => by
        subst y
        have := F2 w w1
        have := S.2.2.2
        omega
      have t2 := T.2 w w1 ng
      refine (FM_widest_5 (FM_widest_6 (FM_widest_9 (FM_widest_11n (by first | assumption | exact rfl) (by omega) (FM_widest_12 (FM_widest_13 (fun c13 => ?_) (fun c13 => (FM_widest_16 (FM_widest_17 (FM_widest_20 (FM_widest_22n (by first | assumption | exact rfl) (by omega) (FM_widest_23 (FM_widest_25 (by decide) (FM_widest_26 ?_))))))))))))))
      · refine (FM_widest_105 (FM_widest_106 (FM_widest_107 (FM_widest_108 (FM_widest_111 (FM_widest_113n (by first | assumption | exact rfl) (by omega) (FM_widest_114 (Nat.le_of_ble_eq_true rfl) (FM_least_s (FM_widest_117 ?_)))))))))
        have mt := mn_i (q := q) (y := h.1 89 w) q0 (by omega)
        refine K _ mt.1 mt.2.1 (Or.inr ⟨?_, ?_⟩)
        · rw [we, rs_g w1]; omega
        · rw [we, eU_g]
          cases n with
          | zero => trivial
          | succ n => exact Or.inl rfl
      · exact absurd b91 c13
/-- the tons and what is left, as words -/
def TO (H : HH) (sp : Nat → Int) (W D g : Nat) (s : (Nat → Int) × (Nat → Int)) : Prop := (∀ w, w < W → H.1 88 w = Int32.ofInt (s.1 w)) ∧ ∀ d, d < D → d ≠ g → H.1 89 d = Int32.ofInt (sp d - s.2 d)
def frG (h H : HH) : Prop := (∀ r, r ≠ 88 → r ≠ 89 → H.1 r = h.1 r) ∧ H.2 = h.2
theorem TM_of {x z : Nat → Int} {m : Int} {H : HH} (S : Szm f t p cp sp W D g) (F : Feas f t cp sp W D g x z m) (T : TO H sp W D g (x, z)) (c87 : ∀ w, w < W → (H.1 87 w).toInt = cp w) : TM H cp sp W D g x z := by
  refine ⟨fun w hw => ⟨c87 w hw, ?_⟩, fun d hd ng => ?_⟩
  · have y := F.1 w hw
    have c := S.2.1 w hw
    rw [T.1 w hw]
    exact Int32.toInt_ofInt_of_le (by show -2147483648 ≤ x w; omega) (by show x w < 2147483648; omega)
  · have y := F.2.1 d hd
    have c := S.2.2.1 d hd
    rw [T.2 d hd ng]
    exact Int32.toInt_ofInt_of_le (by show -2147483648 ≤ sp d - z d; omega) (by show sp d - z d < 2147483648; omega)
theorem goes_l {x z : Nat → Int} {lab : Nat → Option Int} {pd rk : Nat → Nat} {c : Int} {a1 q : Int32} (M : MdH h f t p W D g) (L : DM h lab pd c D) (C : Conv (eU f t) (eV f t) (eC p) (erM f t cp sp W D g x z) pt D lab pd rk) :
    ∀ (n v : Nat) (a : Int) (H : HH) (s : (Nat → Int) × (Nat → Int)) (a4 : Value), rk v ≤ n → v < D → lab v = some a → frG h H → TO H sp W D g s → (∀ H', frG h H' → TO H' sp W D g (aug (eU f t) pd q.toInt n v s) → Q 0 H') →
    E X d FM_goes 2 [.ref 57, .int a1, .int q, .int (nI v), a4] [] H Q := by
  obtain ⟨W12, D6, gD, hW, hD, en⟩ := M
  obtain ⟨l6, c1, c2, c3⟩ := C
  intro n
  induction n with
  | zero =>
    intro v a H s a4 hn hv la fr T K
    have := (c3 v a (by omega) la).2.2.2.2
    omega
  | succ n ih =>
    intro v a H s a4 hn hv la fr T K
    obtain ⟨p1, p2, p3, p4, p5⟩ := c3 v a (by omega) la
    have b91 : H.1 91 v = byI (pd v) := by
      rw [fr.1 91 (by omega) (by omega)]
      rcases L v hv with ⟨z, _⟩ | ⟨a', _, _, _, _, y⟩
      · rw [z] at la; cases la
      · exact y
    have v6 : ¬ v = 6 := by omega
    rw [aug, if_neg v6] at K
    rcases rs_cs p2.1 with ⟨w, w1, w2, we⟩ | ⟨w, w1, w2, we⟩ | ⟨w, w1, we⟩
    · rw [we] at p2 p3 p4 p5 K
      rw [we, byI_f w2] at b91
      rw [eU_f w2] at p4 p5 K
      obtain ⟨⟨r1, -⟩, ⟨r2, -⟩, r3, -⟩ := rem100 w w2
      obtain ⟨e1, e2, e3, e4, e5, e6⟩ := en w w1
      have e80 : H.1 80 w = nI (f w) := by rw [fr.1 80 (by omega) (by omega)]; exact e4
      refine (FM_goes_2 (FM_goes_3 (FM_goes_6 (FM_goes_7n (by first | assumption | exact rfl) (by omega) (FM_goes_8 (FM_goes_9 (fun c9 => ?_) (fun c9 => (FM_goes_12 (FM_goes_13 (FM_goes_16 (FM_goes_17n (by first | assumption | exact rfl) (by omega) (FM_goes_18 (FM_goes_20 (by decide) (FM_goes_21 ?_))))))))))))))
      · exact absurd (b91.symm.trans c9) r2
      · rw [b91, r1]
        refine (FM_goes_23 (FM_goes_24 (FM_goes_27 (FM_goes_29 (FM_goes_30n (by first | assumption | exact rfl) (by omega) (FM_goes_31 (FM_goes_32 (FM_goes_35 (FM_goes_36n (by first | assumption | exact rfl) (by omega) (FM_goes_37 (FM_goes_39 (fun c39 => (FM_goes_46 (FM_goes_47 (FM_goes_48 (FM_goes_49n (by first | assumption | exact rfl) (by omega) (FM_goes_50 (FM_goes_51 (FM_goes_54 (FM_goes_55n (by first | assumption | exact rfl) (by omega) (FM_goes_56 (FM_goes_58 (fun _ => (FM_goes_71 (FM_goes_72 (FM_goes_75 (FM_goes_77n (by first | assumption | exact rfl) (by omega) (FM_goes_78 (FM_goes_79 ?_))))))) (fun z => absurd c39 z)))))))))))) (fun c39 => (FM_goes_42 (FM_goes_43 (FM_goes_48 (FM_goes_49n (by first | assumption | exact rfl) (by omega) (FM_goes_50 (FM_goes_51 (FM_goes_54 (FM_goes_55n (by first | assumption | exact rfl) (by omega) (FM_goes_56 (FM_goes_58 (fun z => absurd z c39) (fun _ => (FM_goes_61 (FM_goes_62 (FM_goes_65 (FM_goes_67n (by first | assumption | exact rfl) (by omega) (FM_goes_68 (FM_goes_78 (FM_goes_79 ?_))))))))))))))))))))))))))))))
        · rw [b91] at c39; exact absurd c39 r3
        · rw [show ∀ v, (pI H 88 w v).1 80 w = nI (f w) from fun v => by rw [pI_r (by omega)]; exact e80]
          refine ih (f w) _ _ _ _ (by omega) e1 p4 ⟨fun r h1 h2 => by rw [pI_r h1]; exact fr.1 r h1 h2, by exact fr.2⟩ ⟨fun y hy => ?_, fun y hy ng => ?_⟩ K
          · unfold ag1
            rw [if_pos w2]
            simp only [pI1, true_and]
            by_cases z : y = w
            · subst z
              rw [if_pos rfl, uq_at, Int32.ofInt_add, Int32.ofInt_toInt, T.1 y hy]
            · rw [if_neg z, uq_ne z, T.1 y hy]
          · unfold ag1
            rw [if_pos w2, pI_r (by omega)]
            exact T.2 y hy ng
    · rw [we] at p2 p3 p4 p5 K
      rw [we, byI_b w2] at b91
      rw [eU_b w2] at p4 p5 K
      obtain ⟨⟨-, r1⟩, ⟨-, r2⟩, -, r3⟩ := rem100 w w2
      obtain ⟨e1, e2, e3, e4, e5, e6⟩ := en w w1
      have e81 : H.1 81 w = nI (t w) := by rw [fr.1 81 (by omega) (by omega)]; exact e5
      refine (FM_goes_2 (FM_goes_3 (FM_goes_6 (FM_goes_7n (by first | assumption | exact rfl) (by omega) (FM_goes_8 (FM_goes_9 (fun c9 => ?_) (fun c9 => (FM_goes_12 (FM_goes_13 (FM_goes_16 (FM_goes_17n (by first | assumption | exact rfl) (by omega) (FM_goes_18 (FM_goes_20 (by decide) (FM_goes_21 ?_))))))))))))))
      · exact absurd (b91.symm.trans c9) r2
      · rw [b91, r1]
        refine (FM_goes_23 (FM_goes_24 (FM_goes_27 (FM_goes_29 (FM_goes_30n (by first | assumption | exact rfl) (by omega) (FM_goes_31 (FM_goes_32 (FM_goes_35 (FM_goes_36n (by first | assumption | exact rfl) (by omega) (FM_goes_37 (FM_goes_39 (fun c39 => (FM_goes_46 (FM_goes_47 (FM_goes_48 (FM_goes_49n (by first | assumption | exact rfl) (by omega) (FM_goes_50 (FM_goes_51 (FM_goes_54 (FM_goes_55n (by first | assumption | exact rfl) (by omega) (FM_goes_56 (FM_goes_58 (fun _ => (FM_goes_71 (FM_goes_72 (FM_goes_75 (FM_goes_77n (by first | assumption | exact rfl) (by omega) (FM_goes_78 (FM_goes_79 ?_))))))) (fun z => absurd c39 z)))))))))))) (fun c39 => (FM_goes_42 (FM_goes_43 (FM_goes_48 (FM_goes_49n (by first | assumption | exact rfl) (by omega) (FM_goes_50 (FM_goes_51 (FM_goes_54 (FM_goes_55n (by first | assumption | exact rfl) (by omega) (FM_goes_56 (FM_goes_58 (fun z => absurd z c39) (fun _ => (FM_goes_61 (FM_goes_62 (FM_goes_65 (FM_goes_67n (by first | assumption | exact rfl) (by omega) (FM_goes_68 (FM_goes_78 (FM_goes_79 ?_))))))))))))))))))))))))))))))
        · rw [show ∀ v, (pI H 88 w v).1 81 w = nI (t w) from fun v => by rw [pI_r (by omega)]; exact e81]
          refine ih (t w) _ _ _ _ (by omega) e2 p4 ⟨fun r h1 h2 => by rw [pI_r h1]; exact fr.1 r h1 h2, by exact fr.2⟩ ⟨fun y hy => ?_, fun y hy ng => ?_⟩ K
          · unfold ag1
            rw [if_neg (by omega), if_pos (by omega), Nat.add_sub_cancel_left]
            simp only [pI1, true_and]
            by_cases z : y = w
            · subst z
              rw [if_pos rfl, uq_at, Int32.ofInt_sub, Int32.ofInt_toInt, T.1 y hy, Int32.sub_eq_add_neg]
            · rw [if_neg z, uq_ne z, T.1 y hy]
          · unfold ag1
            rw [if_neg (by omega), if_pos (by omega), pI_r (by omega)]
            exact T.2 y hy ng
        · rw [b91] at c39; exact absurd r3 c39
    · rw [we] at p2 p3 K
      rw [we, byI_g] at b91
      rw [eV_g] at p3
      subst p3
      rw [eU_g] at K
      have K2 : ∀ H', frG h H' → TO H' sp W D g (ag1 q.toInt (24 + w) s) → Q 0 H' := by
        cases n with
        | zero => exact K
        | succ n => rw [aug, if_pos rfl] at K; exact K
      refine (FM_goes_2 (FM_goes_3 (FM_goes_6 (FM_goes_7n (by first | assumption | exact rfl) (by omega) (FM_goes_8 (FM_goes_9 (fun c9 => (FM_goes_82 (FM_goes_83 (FM_goes_86 (FM_goes_87 (FM_goes_88n (by first | assumption | exact rfl) (by omega) (FM_goes_89 (FM_goes_90 (FM_goes_91n (by first | assumption | exact rfl) (by omega) (FM_goes_92 ?_)))))))))) (fun c9 => (FM_goes_12 (FM_goes_13 (FM_goes_16 (FM_goes_17n (by first | assumption | exact rfl) (by omega) (FM_goes_18 (FM_goes_20 (by decide) (FM_goes_21 ?_))))))))))))))
      · refine K2 _ ⟨fun r h1 h2 => by rw [pI_r h2]; exact fr.1 r h1 h2, by exact fr.2⟩ ⟨fun y hy => ?_, fun y hy ng => ?_⟩
        · unfold ag1
          rw [if_neg (by omega), if_neg (by omega), pI_r (by omega)]
          exact T.1 y hy
        · unfold ag1
          rw [if_neg (by omega), if_neg (by omega), Nat.add_sub_cancel_left]
          simp only [pI1, true_and]
          by_cases z : y = w
          · subst z
            rw [if_pos rfl, uq_at, show sp y - (s.2 y + q.toInt) = sp y - s.2 y - q.toInt by omega, Int32.ofInt_sub, Int32.ofInt_toInt, T.2 y hy ng]
          · rw [if_neg z, uq_ne z, T.2 y hy ng]
      · exact absurd b91 c9
end MF
