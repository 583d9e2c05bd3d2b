/-! the plan -/
section PN
variable {X : SX} {d g D W keep : Nat} {h : HH} {Q : Int32 → HH → Prop} {f t : Nat → Nat} {k cp sp pt : Nat → Int}
/-- the edges that the class has laid -/
def EdP (H : HH) (f t : Nat → Nat) (k : Nat → Int) (W D : Nat) : Prop :=
  (∀ w, w < W → H.1 45 w = nI (f w) ∧ H.1 45 (12 + w) = nI (t w) ∧ H.1 46 w = nI (t w) ∧ H.1 46 (12 + w) = nI (f w) ∧ (H.2 48 w).toInt = k w ∧ (H.2 48 (12 + w)).toInt = - k w) ∧
  ∀ w, w < D → H.1 45 (24 + w) = nI 6 ∧ H.1 46 (24 + w) = nI w ∧ (H.2 48 (24 + w)).toInt = 0
def frP (h H : HH) : Prop := (∀ r, r ≠ 44 → r ≠ 45 → r ≠ 46 → r ≠ 47 → r ≠ 50 → H.1 r = h.1 r) ∧ ∀ r, r ≠ 48 → r ≠ 49 → H.2 r = h.2 r
/-- what the sizes are -/
def Szs (f t : Nat → Nat) (k cp sp : Nat → Int) (W D g : Nat) : Prop := Ends f t W D g ∧ (∀ w, w < W → 0 ≤ k w ∧ k w ≤ 60000000 ∧ 0 ≤ cp w ∧ cp w ≤ 999) ∧ ∀ d, d < D → 0 ≤ sp d ∧ sp d ≤ 99999
theorem rs_sz (S : Szs f t k cp sp W D g) {x z : Nat → Int} {m : Int} (F : Feas f t cp sp W D g x z m) (e : Nat) : 0 ≤ rs cp sp W D x z e ∧ rs cp sp W D x z e ≤ 99999 := by
  obtain ⟨_, s1, s2⟩ := S
  obtain ⟨f1, f2, _⟩ := F
  unfold rs
  by_cases h1 : e < 12
  · rw [if_pos h1]
    by_cases h2 : e < W
    · have := s1 e h2; have := f1 e h2
      rw [if_pos h2]; omega
    · rw [if_neg h2]; omega
  · rw [if_neg h1]
    by_cases h2 : e < 24
    · rw [if_pos h2]
      by_cases h3 : e - 12 < W
      · have := s1 _ h3; have := f1 _ h3
        rw [if_pos h3]; omega
      · rw [if_neg h3]; omega
    · rw [if_neg h2]
      by_cases h3 : e - 24 < D
      · have := s2 _ h3; have := f2 _ h3
        rw [if_pos h3]; omega
      · rw [if_neg h3]; omega
theorem RR_i (S : Szs f t k cp sp W D g) {x z : Nat → Int} {m : Int} {H : HH} (F : Feas f t cp sp W D g x z m) (R : RR cp sp W D H (x, z)) {e : Nat} (he : e < 30) : (H.1 47 e).toInt = rs cp sp W D x z e := by
  have := rs_sz S F e
  have R' : H.1 47 e = Int32.ofInt (rs cp sp W D x z e) := R e he
  rw [R']
  exact Int32.toInt_ofInt_of_le (by omega) (by omega)
theorem EdP_EdR (S : Szs f t k cp sp W D g) {x z : Nat → Int} {m : Int} {H : HH} (F : Feas f t cp sp W D g x z m) (R : RR cp sp W D H (x, z)) (P : EdP H f t k W D) : EdR H (eU f t) (eV f t) (eC k) := by
  intro e he re
  rw [RR_i S F R he] at re
  obtain ⟨⟨W12, D6, gD, en⟩, s1, s2⟩ := S
  obtain ⟨P1, P2⟩ := P
  rcases rs_cs re with ⟨w, w1, w2, rfl⟩ | ⟨w, w1, w2, rfl⟩ | ⟨w, w1, rfl⟩
  · obtain ⟨a1, a2, a3, a4, a5, a6⟩ := P1 _ w1
    have := s1 _ w1; have := en _ w1
    rw [eU_f w2, eV_f w2, eC_f w2]
    exact ⟨a1, a3, a5, by omega, by omega, by omega, by omega⟩
  · obtain ⟨a1, a2, a3, a4, a5, a6⟩ := P1 _ w1
    have := s1 _ w1; have := en _ w1
    rw [eU_b w2, eV_b w2, eC_b w2]
    exact ⟨a2, a4, a6, by omega, by omega, by omega, by omega⟩
  · obtain ⟨a1, a2, a3⟩ := P2 _ w1
    rw [eU_g, eV_g, eC_g]
    exact ⟨a1, a2, a3, by omega, by omega, by omega, by omega⟩
theorem Net_of (S : Szs f t k cp sp W D g) {x z : Nat → Int} {m : Int} {H : HH} (F : Feas f t cp sp W D g x z m) (V : Vali f t k cp sp W D pt x z) (R : RR cp sp W D H (x, z)) : Net (eU f t) (eV f t) (eC k) (erH H) pt D := by
  have S' := S
  obtain ⟨⟨W12, D6, gD, en⟩, s1, s2⟩ := S'
  refine ⟨V.1, D6, fun e he re => ?_⟩
  have re' : 0 < rs cp sp W D x z e := by rw [← RR_i S F R he]; exact re
  have v := V.2.1 e he re'
  rcases rs_cs re' with ⟨w, w1, w2, rfl⟩ | ⟨w, w1, w2, rfl⟩ | ⟨w, w1, rfl⟩
  · have := en _ w1
    rw [eU_f w2, eV_f w2] at *
    exact ⟨by omega, by omega, by omega, v⟩
  · have := en _ w1
    rw [eU_b w2, eV_b w2] at *
    exact ⟨by omega, by omega, by omega, v⟩
  · rw [eU_g, eV_g] at *
    exact ⟨by omega, by omega, by omega, v⟩
theorem pok_cg {r r' : Nat → Int} {eu pd : Nat → Nat} {q : Int} {lab : Nat → Option Int} (c : ∀ v a, v ≠ 6 → lab v = some a → r (pd v) = r' (pd v) ∧ ∃ b, lab (eu (pd v)) = some b) : ∀ (n v : Nat), (∃ a, lab v = some a) → pok r eu pd q n v → pok r' eu pd q n v := by
  intro n
  induction n with
  | zero => intro v _ _; trivial
  | succ n ih =>
    intro v la p
    by_cases v6 : v = 6
    · exact Or.inl v6
    · rcases p with p | ⟨p1, p2⟩
      · exact absurd p v6
      · obtain ⟨a, ha⟩ := la
        obtain ⟨c1, c2⟩ := c v a v6 ha
        exact Or.inr ⟨by omega, ih _ c2 p2⟩
theorem plan_x {n0 ke : Int32} {l m r : Nat} {H : HH} (hl : l < 10000) (K1 : l = 0 → ∀ H', frP H H' → (∀ w, w < 12 → H'.1 44 w = H.1 47 (12 + w)) → Q 1 H') (K0 : l ≠ 0 → ∀ H', frP H H' → Q 0 H') :
    E X (d + 1) Ca_plan 66 [.ref 43, .ref 2, .ref 11, .int (nI g), .int n0, .int ke, .int (nI l), .int (nI r)] [] H Q := by
  have fr : frP H (cR H 47 44 (12 : Int32).toNatClampNeg (0 : Int32).toNatClampNeg (12 : Int32).toNatClampNeg) := ⟨fun r a _ _ _ _ => cR_r a, fun r _ _ => rfl⟩
  refine (Ca_plan_66 (Ca_plan_67 (Ca_plan_70 (Ca_plan_72 (Ca_plan_73 (Ca_plan_76 (Ca_plan_77 (Ca_plan_79 (by decide) (by decide) (by decide) (by decide) (by decide) (Nat.le_of_ble_eq_true rfl) (Ca_plan_82 (Ca_plan_84 (fun c84 => (Ca_plan_91 (Ca_plan_92 rfl ?_))) (fun c84 => (Ca_plan_87 (Ca_plan_88 (Ca_plan_92 rfl ?_))))))))))))))
  · refine K0 (fun z => c84 (by rw [z]; rfl)) _ fr
  · refine K1 (nI_inj (show nI l = nI 0 from c84) (by omega) (by omega)) _ fr (fun w hw => ?_)
    rw [cR1, if_pos rfl]
    show (if (0 : Int32).toNatClampNeg ≤ w ∧ w < (0 : Int32).toNatClampNeg + (12 : Int32).toNatClampNeg then _ else _) = _
    rw [if_pos (by rw [show (0 : Int32).toNatClampNeg = 0 by decide, show (12 : Int32).toNatClampNeg = 12 by decide]; omega)]
    rfl
theorem frP_t {a b c : HH} (h1 : frP a b) (h2 : frP b c) : frP a c := ⟨fun r x1 x2 x3 x4 x5 => (h2.1 r x1 x2 x3 x4 x5).trans (h1.1 r x1 x2 x3 x4 x5), fun r x y => (h2.2 r x y).trans (h1.2 r x y)⟩
theorem nI_ofq {q : Int32} (hq : 0 ≤ q.toInt) : q = nI q.toInt.toNat := by
  have e : ((q.toInt.toNat : Nat) : Int) = q.toInt := Int.toNat_of_nonneg hq
  have l : q.toInt < 2147483648 := by have := Int32.toInt_lt q; omega
  refine Int32.toInt_inj.mp ?_
  rw [nI_toInt (by omega), e]
/-- the round at pc 28 -/
theorem plan_l {n : Nat} (S : Szs f t k cp sp W D g) (hn : n ≤ 9999)
    (K1 : ∀ H x z pt, frP h H → Feas f t cp sp W D g x z n → Vali f t k cp sp W D pt x z → (∀ w, w < W → (H.1 44 w).toInt = x w) → Q 1 H)
    (K0 : ∀ H, frP h H → (∀ x z, ¬ Feas f t cp sp W D g x z n) → Q 0 H) : ∀ (n' r m : Nat) (H : HH) (x z pt : Nat → Int), r + n' = n → r ≤ m → m ≤ n → frP h H → EdP H f t k W D → RR cp sp W D H (x, z) → Feas f t cp sp W D g x z m → Vali f t k cp sp W D pt x z →
    E X (d + 2) Ca_plan 28 [.ref 43, .ref 2, .ref 11, .int (nI g), .int (nI n), .int (nI keep), .int (nI (n - m)), .int (nI r)] [] H Q := by
  have g6 : g < 6 := by obtain ⟨⟨_, D6, gD, _⟩, _⟩ := S; omega
  have W12 : W ≤ 12 := S.1.1
  have D6 : D ≤ 6 := S.1.2.1
  have gD : g < D := S.1.2.2.1
  intro n'
  induction n' with
  | zero =>
    intro r m H x z pt hr rm mn fr P R F V
    obtain rfl : r = n := by omega
    obtain rfl : m = r := by omega
    refine (Ca_plan_28 (Ca_plan_30 (Ca_plan_32 (fun c32 => ?_) (fun c32 => ?_))))
    · refine plan_x (m := 0) (by omega) (fun _ H' fr' tn => K1 H' x z pt (frP_t fr fr') F V (fun w hw => ?_)) (fun z => absurd (Nat.sub_self _) z)
      rw [tn w (by omega), RR_i S F R (by omega), rs_b hw W12]
    · exact absurd (Int32.le_refl _) c32
  | succ n' ih =>
    intro r m H x z pt hr rm mn fr P R F V
    refine (Ca_plan_28 (Ca_plan_30 (Ca_plan_32 (fun c32 => ?_) (fun c32 => (Ca_plan_35 (Ca_plan_37 (fun c37 => ?_) (fun c37 => ?_)))))))
    · exact absurd ((leN rfl rfl (by omega) (by omega)).mp c32) (by omega)
    · have e0 : n - m ≤ 0 := (leN (show nI (n - m) = nI (n - m) from rfl) (show (0 : Int32) = nI 0 from rfl) (by omega) (by omega)).mp c37
      obtain rfl : m = n := by omega
      refine plan_x (m := 0) (by omega) (fun _ H' fr' tn => K1 H' x z pt (frP_t fr fr') F V (fun w hw => ?_)) (fun z => absurd (Nat.sub_self _) z)
      rw [tn w (by omega), RR_i S F R (by omega), rs_b hw W12]
    · have e0 : ¬ n - m ≤ 0 := fun z => c37 ((leN (show nI (n - m) = nI (n - m) from rfl) (show (0 : Int32) = nI 0 from rfl) (by omega) (by omega)).mpr z)
      refine (Ca_plan_40 (Ca_plan_41 (Ca_plan_42 (Nat.le_of_ble_eq_true rfl) ?_)))
      refine findPath_c (Net_of S F V R) (EdP_EdR S F R P) g6 (fun H' lab pd rk b fr' DSs C hb => ?_)
      have C' : Conv (eU f t) (eV f t) (eC k) (fun e => e < 30 ∧ erH H e) pt D lab pd rk := by
        obtain ⟨l6, c1, c2, c3⟩ := C
        exact ⟨l6, fun e a he re la => c1 e a he re.2 la, c2, fun v a hv la => by obtain ⟨a1, a2, a3⟩ := c3 v a hv la; exact ⟨a1, ⟨a1, a2⟩, a3⟩⟩
      have frp : frP H H' := ⟨fun r _ _ _ _ a => fr'.1 r a, fun r _ a => fr'.2 r a⟩
      have R' : RR cp sp W D H' (x, z) := fun e he => by rw [fr'.1 47 (by omega)]; exact R e he
      have P' : EdP H' f t k W D := by
        unfold EdP
        rw [fr'.1 45 (by omega), fr'.1 46 (by omega), fr'.2 48 (by omega)]; exact P
      have hrr : ∀ e, e < 30 ∧ erH H e → 0 < rs cp sp W D x z e := fun e ⟨e1, e2⟩ => by rw [← RR_i S F R e1]; exact e2
      have haa : ∀ e, e < 30 → 0 < rs cp sp W D x z e → eU f t e ≠ g → e < 30 ∧ erH H e := fun e e1 e2 _ => ⟨e1, by unfold erH; rw [RR_i S F R e1]; exact e2⟩
      cases b with
      | false =>
        refine (Ca_plan_45 (fun _ => ?_) (fun z => absurd z (by decide)))
        refine plan_x (m := 0) (by omega) (fun z => absurd z (by omega)) (fun _ H'' fr'' => K0 H'' (frP_t fr (frP_t frp fr'')) (fun x' z' F' => ?_))
        have lg : lab g = none := by
          cases la : lab g with
          | none => rfl
          | some a => exact absurd (hb.mpr ⟨a, la⟩) (by decide)
        have := cut S.1 F C' haa lg F'
        omega
      | true =>
        obtain ⟨a, la⟩ := hb.mp rfl
        refine (Ca_plan_45 (fun z => absurd z (by decide)) (fun _ => (Ca_plan_48 (Ca_plan_50 (Ca_plan_51 (Ca_plan_52 (Ca_plan_54 (Nat.le_of_ble_eq_true rfl) ?_)))))))
        have B : Bck H' (eU f t) pd rk lab D := fun v a v6 la => by
          obtain ⟨l6, c1, c2, c3⟩ := C
          obtain ⟨a1, a2, a3, a4, a5⟩ := c3 v a v6 la
          obtain ⟨b1, b2, b3⟩ := c2 v a la
          have v6' : v < 6 := by omega
          have ed := EdP_EdR S F R P (pd v) a1 a2
          refine ⟨v6', DSs.2.1 v v6' ⟨a, la⟩, a1, ?_, a5, ⟨_, a4⟩, by omega, ?_⟩
          · rw [fr'.1 45 (by omega)]; exact ed.1
          · rw [fr'.1 47 (by omega)]; exact a2
        have hk0 : ∀ v a, v ≠ 6 → lab v = some a → (∃ w, w < W ∧ (pd v = w ∨ pd v = 12 + w)) ∨ ∃ d, d < D ∧ pd v = 24 + d := fun v a v6 la => by
          obtain ⟨l6, c1, c2, c3⟩ := C'
          obtain ⟨a1, a2, a3, a4, a5⟩ := c3 v a v6 la
          rcases rs_cs (hrr _ a2) with ⟨w, w1, _, w3⟩ | ⟨w, w1, _, w3⟩ | ⟨w, w1, w3⟩
          · exact Or.inl ⟨w, w1, Or.inl w3⟩
          · exact Or.inl ⟨w, w1, Or.inr w3⟩
          · exact Or.inr ⟨w, w1, w3⟩
        refine sendAlong_c W12 D6 B hk0 g6 la (by rw [nI_toInt (by omega)]; omega) R' (fun q H'' q0 q1 pk fr'' R'' => ?_)
        rw [nI_toInt (by omega)] at q1
        have pk' : pok (rs cp sp W D x z) (eU f t) pd q.toInt 6 g := pok_cg (lab := lab) (fun v a v6 la => by
          obtain ⟨l6, c1, c2, c3⟩ := C
          obtain ⟨a1, a2, a3, a4, a5⟩ := c3 v a v6 la
          refine ⟨?_, _, a4⟩
          show (H'.1 47 (pd v)).toInt = _
          rw [fr'.1 47 (by omega)]; exact RR_i S F R a1) 6 g ⟨a, la⟩ pk
        have rk6 : rk g ≤ 6 := by have := (C.2.2.1 g a la).2.2; omega
        obtain ⟨G1, G2, ⟨pt', G3⟩, G4⟩ := grow (x' := (aug (eU f t) pd q.toInt 6 g (x, z)).1) (z' := (aug (eU f t) pd q.toInt 6 g (x, z)).2) S.1 F V C' hrr haa q0 la rk6 pk' rfl
        have qn := nI_ofq (q := q) (by omega)
        generalize hqn : q.toInt.toNat = qN at qn
        have qN' : (qN : Int) = q.toInt := by omega
        refine (Ca_plan_57 (Ca_plan_58 (Ca_plan_60 (Ca_plan_63 ?_))))
        rw [nI_1, nI_subE (show nI (n - m) = nI (n - m) from rfl) qn (by omega), show n - m - qN = n - (m + qN) by omega]
        refine ih (r + 1) (m + qN) H'' _ _ pt' (by omega) (by omega) (by omega) (frP_t fr (frP_t frp ⟨fun r _ _ _ a _ => fr''.1 r a, fun r _ _ => by rw [fr''.2]⟩)) ?_ R'' (by rw [show ((m + qN : Nat) : Int) = m + q.toInt by omega]; exact G1) G3
        unfold EdP
        rw [fr''.1 45 (by omega), fr''.1 46 (by omega), fr''.2]; exact P'
theorem LdH_cg {H : HH} (L : LdH h f t k cp sp W D g keep) (e : ∀ r, r ≠ 45 → r ≠ 46 → r ≠ 47 → H.1 r = h.1 r) : LdH H f t k cp sp W D g keep := by
  unfold LdH
  rw [e 11 (by omega) (by omega) (by omega), e 2 (by omega) (by omega) (by omega), e 12 (by omega) (by omega) (by omega), e 13 (by omega) (by omega) (by omega), e 14 (by omega) (by omega) (by omega), e 15 (by omega) (by omega) (by omega), e 3 (by omega) (by omega) (by omega)]
  exact L
theorem LdH_Szs (L : LdH h f t k cp sp W D g keep) : Szs f t k cp sp W D g := by
  obtain ⟨W12, D6, gD, kp, hW, hD, en, st⟩ := L
  refine ⟨⟨W12, D6, gD, fun w hw => ?_⟩, fun w hw => ?_, fun d hd => ?_⟩
  · obtain ⟨f1, f2, f3, _⟩ := en w hw
    exact ⟨f1, f2, f3⟩
  · obtain ⟨f1, f2, f3, f4, f5, f6, f7, f8, f9, f10, f11⟩ := en w hw
    obtain ⟨p1, p2, p3⟩ := kPows_i w (by omega)
    omega
  · obtain ⟨s1, s2, s3, s4, s5, s6⟩ := st d hd
    by_cases z : d = g
    · have := s4 z; omega
    · by_cases y : (h.1 3 (d * 15 + 0)).toInt ≤ keep
      · have := s5 z y; omega
      · have := s6 z (by omega); omega
theorem plan_c {n : Nat} (L : LdH h f t k cp sp W D g keep) (hn : n ≤ 9999)
    (K1 : ∀ H x z pt, frP h H → Feas f t cp sp W D g x z n → Vali f t k cp sp W D pt x z → (∀ w, w < W → (H.1 44 w).toInt = x w) → Q 1 H)
    (K0 : ∀ H, frP h H → (∀ x z, ¬ Feas f t cp sp W D g x z n) → Q 0 H) :
    E X (d + 3) Ca_plan 0 [.ref 43, .ref 2, .ref 11, .int (nI g), .int (nI n), .int (nI keep), U0, U0] [] h Q := by
  have S := LdH_Szs L
  have g6 : g < 6 := by obtain ⟨⟨_, D6, gD, _⟩, _⟩ := S; omega
  refine (Ca_plan_0 (Ca_plan_1 (Ca_plan_4 (Ca_plan_5 (Nat.le_of_ble_eq_true rfl) ?_))))
  refine JA_fillI_c (n := 30) rfl (by omega) ?_
  have z1 : ∀ r, r ≠ 47 → (fR h 47 0 30 0).1 r = h.1 r := fun r hr => by funext y; exact if_neg (fun z => hr z.1)
  have z2 : ∀ e, e < 30 → (fR h 47 0 30 0).1 47 e = 0 := fun e he => if_pos ⟨rfl, Nat.zero_le _, by omega⟩
  have L1 : LdH (fR h 47 0 30 0) f t k cp sp W D g keep := LdH_cg L (fun r _ _ a => z1 r a)
  refine (Ca_plan_8 (Ca_plan_9 (Ca_plan_10 (Nat.le_of_ble_eq_true rfl) ?_)))
  refine layWays_c L1 (fun H1 I1 => ?_)
  have L2 : LdH H1 f t k cp sp W D g keep := LdH_cg L1 I1.1
  refine (Ca_plan_13 (Ca_plan_14 (Ca_plan_15 (Ca_plan_16 (Ca_plan_18 (Nat.le_of_ble_eq_true rfl) ?_)))))
  refine layGiven_c L2 (fun H2 I2 => ?_)
  refine (Ca_plan_21 (Ca_plan_23 (Ca_plan_25 (Ca_plan_26 ?_))))
  obtain ⟨i1, i2, i3, i4⟩ := I1
  obtain ⟨j1, j2, j3, j5, j4⟩ := I2
  have W12 : W ≤ 12 := S.1.1
  have Lw := L.2.2.2.2.2.2.1
  refine plan_l S hn K1 K0 n 0 0 H2 (fun _ => 0) (fun _ => 0) (fun _ => 0) (by omega) (Nat.le_refl _) (Nat.zero_le _) ⟨fun r a b c e _ => ?_, fun r a b => ?_⟩ ⟨fun w hw => ?_, fun w hw => ?_⟩ (fun e he => ?_) ⟨fun w hw => ?_, fun w hw => ?_, fun w hw => ?_⟩ ⟨rfl, fun e he re => ?_, fun w hw _ => Int.le_refl _⟩
  · rw [j1 r b c e, i1 r b c e, z1 r e]
  · rw [j2 r a, i2 r a]; rfl
  · obtain ⟨b1, b2, b3, b4, b5, b6, b7⟩ := i4 w hw
    rw [j3 45 w (by omega), j3 45 (12 + w) (by omega), j3 46 w (by omega), j3 46 (12 + w) (by omega), j5 48 w (by omega), j5 48 (12 + w) (by omega)]
    exact ⟨b1, b2, b3, b4, b5, b6⟩
  · obtain ⟨b1, b2, b3, b4⟩ := j4 w hw
    exact ⟨b1, b2, b3⟩
  · show H2.1 47 e = Int32.ofInt (rs cp sp W D (fun _ => 0) (fun _ => 0) e)
    unfold rs
    by_cases h1 : e < 12
    · rw [if_pos h1, j3 47 e (by omega)]
      by_cases h2 : e < W
      · rw [if_pos h2, (i4 e h2).2.2.2.2.2.2, z1 14 (by omega), Int.sub_zero, ← (Lw e h2).2.2.2.2.2.1, Int32.ofInt_toInt]
      · rw [if_neg h2, i3 e (by omega), z2 e he]; rfl
    · rw [if_neg h1]
      by_cases h2 : e < 24
      · rw [if_pos h2, j3 47 e (by omega), i3 e (by omega), z2 e he, ite_self]; rfl
      · rw [if_neg h2]
        by_cases h3 : e - 24 < D
        · have b4 := (j4 _ h3).2.2.2
          rw [show 24 + (e - 24) = e by omega] at b4
          rw [if_pos h3, Int.sub_zero, b4]
        · rw [if_neg h3, j3 47 e (by omega), i3 e (by omega), z2 e he]; rfl
  · have y := S.2.1 w hw
    show (0 : Int) ≤ 0 ∧ 0 ≤ cp w
    omega
  · have y := S.2.2 w hw
    show (0 : Int) ≤ 0 ∧ 0 ≤ sp w
    omega
  · unfold nt
    rw [smI_0 W (fun i _ => by rw [ite_self, ite_self]; rfl)]
    show (0 : Int) + 0 = if w = g then 0 else 0
    rw [ite_self]; rfl
  · show (0 : Int) ≤ 0 + eC k e
    rcases rs_cs re with ⟨w, w1, w2, w3⟩ | ⟨w, w1, w2, w3⟩ | ⟨w, w1, w3⟩
    · have := S.2.1 w w1
      rw [w3, eC_f w2]; omega
    · rw [w3, rs_b w1 W12] at re
      exact absurd re (by decide)
    · rw [w3, eC_g]; omega
end PN
