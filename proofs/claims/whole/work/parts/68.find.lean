/-! the class's search -/
def FAR : Int64 := 1152921504606846976
theorem FAR_i : FAR.toInt = 1152921504606846976 := by decide
/-- the labels as the class keeps them, none greater than c -/
def DS (h : HH) (lab : Nat → Option Int) (pd : Nat → Nat) (c : Int) : Prop :=
  (∀ v, v < 7 → (lab v = none ∧ h.2 49 v = FAR) ∨ ∃ a, lab v = some a ∧ (h.2 49 v).toInt = a ∧ -c ≤ a ∧ a ≤ c) ∧ (∀ v, v < 6 → (∃ a, lab v = some a) → h.1 50 v = nI (pd v)) ∧ ∀ v, 7 ≤ v → lab v = none
/-- only the search's rows differ -/
def frS (h H : HH) : Prop := (∀ r, r ≠ 50 → H.1 r = h.1 r) ∧ ∀ r, r ≠ 49 → H.2 r = h.2 r
/-- the edges as the class has laid them -/
def EdR (h : HH) (eu ev : Nat → Nat) (ec : Nat → Int) : Prop := ∀ e, e < 30 → 0 < (h.1 47 e).toInt → h.1 45 e = nI (eu e) ∧ h.1 46 e = nI (ev e) ∧ (h.2 48 e).toInt = ec e ∧ -60000000 ≤ ec e ∧ ec e ≤ 60000000 ∧ eu e < 7 ∧ ev e < 6
section FP
variable {X : SX} {d g D : Nat} {h : HH} {Q : Int32 → HH → Prop} {eu ev : Nat → Nat} {ec pt : Nat → Int}
theorem pL1 (h : HH) (i k : Nat) (v : Int64) (a b : Nat) : (pL h i k v).2 a b = if a = i ∧ b = k then v else h.2 a b := rfl
theorem comeNearer_c {H : HH} {e : Nat} {lab : Nat → Option Int} {pd : Nat → Nat} {c : Int} (E0 : EdR h eu ev ec) (fr : frS h H) (S : DS H lab pd c) (he : e < 30) (re : 0 < (h.1 47 e).toInt) (hc : 0 ≤ c) (hc2 : c ≤ 100000000000)
    (t : ∀ a H', lab (eu e) = some a → ¬ nOk ev ec lab e a → frS h H' → DS H' (fun v => if v = ev e then some (a + ec e) else lab v) (fun v => if v = ev e then e else pd v) (c + 60000000) → Q 1 H') (f : (∀ a, lab (eu e) = some a → nOk ev ec lab e a) → Q 0 H) : E X d Ca_comeNearer 0 [.ref 43, .int (nI e), U0, U0] [] H Q := by
  obtain ⟨e1, e2, e3, e4, e5, e6, e7⟩ := E0 e he re
  have x45 : H.1 45 e = nI (eu e) := by rw [fr.1 45 (by omega)]; exact e1
  have x46 : H.1 46 e = nI (ev e) := by rw [fr.1 46 (by omega)]; exact e2
  have x48 : H.2 48 e = h.2 48 e := by rw [fr.2 48 (by omega)]
  obtain ⟨S1, S2, S3⟩ := S
  have F1 := FAR_i
  have tail := S1 (eu e) (by omega)
  have head := S1 (ev e) (by omega)
  have st : ∀ a, lab (eu e) = some a → (H.2 49 (eu e)).toInt = a ∧ -c ≤ a ∧ a ≤ c := fun a ha => by
    rcases tail with ⟨z, _⟩ | ⟨b, b1, b2⟩
    · rw [z] at ha; cases ha
    · rw [b1] at ha; cases ha; exact b2
  have sum : ∀ a, lab (eu e) = some a → (H.2 49 (eu e) + H.2 48 e).toInt = a + ec e := fun a ha => by
    obtain ⟨a1, a2, a3⟩ := st a ha
    rw [i64_add (by rw [a1, x48, e3]; omega) (by rw [a1, x48, e3]; omega), a1, x48, e3]
  refine (Ca_comeNearer_0 (Ca_comeNearer_1 (Ca_comeNearer_4 (Ca_comeNearer_5 (Ca_comeNearer_8 (Ca_comeNearer_9n (by first | assumption | exact rfl) (by omega) (Ca_comeNearer_10n (by assumption) (by omega) (Ca_comeNearer_11 (Ca_comeNearer_12 (Ca_comeNearer_13 (Ca_comeNearer_16 (Ca_comeNearer_17 (fun c17 => (Ca_comeNearer_43 (Ca_comeNearer_44 rfl ?_))) (fun c17 => (Ca_comeNearer_20 (Ca_comeNearer_21 (Ca_comeNearer_22 (Ca_comeNearer_25 (Ca_comeNearer_26n (by first | assumption | exact rfl) (by omega) (Ca_comeNearer_27 (Ca_comeNearer_28 (Ca_comeNearer_29 (Ca_comeNearer_32 (Ca_comeNearer_33 (Ca_comeNearer_36 (Ca_comeNearer_37n (by first | assumption | exact rfl) (by omega) (Ca_comeNearer_38n (by assumption) (by omega) (Ca_comeNearer_39 (Ca_comeNearer_40 (fun c40 => (Ca_comeNearer_45 (Ca_comeNearer_46 (Ca_comeNearer_49 (Ca_comeNearer_50 (Ca_comeNearer_53 (Ca_comeNearer_54n (by first | assumption | exact rfl) (by omega) (Ca_comeNearer_55 (Ca_comeNearer_56 (Ca_comeNearer_57 (Ca_comeNearer_60 (Ca_comeNearer_61n (by first | assumption | exact rfl) (by omega) (Ca_comeNearer_62 (Ca_comeNearer_63n (by assumption) (by omega) (Ca_comeNearer_64 (Ca_comeNearer_65 (Ca_comeNearer_68 (Ca_comeNearer_69 (Ca_comeNearer_72 (Ca_comeNearer_73n (by first | assumption | exact rfl) (by omega) (Ca_comeNearer_74 (Ca_comeNearer_75n (by assumption) (by omega) (Ca_comeNearer_76 (Ca_comeNearer_77 rfl ?_)))))))))))))))))))))))) (fun c40 => (Ca_comeNearer_43 (Ca_comeNearer_44 rfl ?_)))))))))))))))))))))))))))))))
  · have z := (fl_le _ _).mp ((lg_cmp_ge _ _).mp c17)
    refine f (fun a ha => ?_)
    obtain ⟨a1, a2, a3⟩ := st a ha
    rw [a1, show (1152921504606846976 : Int64).toInt = 1152921504606846976 by decide] at z
    omega
  · have nz : ¬ FAR.toInt ≤ (H.2 49 (eu e)).toInt := fun y => c17 ((lg_cmp_ge _ _).mpr ((fl_le _ _).mpr y))
    have z := (fl_lt _ _).mp ((lg_cmp_lt _ _).mp c40)
    rcases tail with ⟨y1, y2⟩ | ⟨a, a1, a2, a3, a4⟩
    · rw [y2] at nz; omega
    · rw [sum a a1] at z
      refine t a _ a1 (fun ⟨b, b1, b2⟩ => ?_) ⟨fun r hr => ?_, fun r hr => ?_⟩ ⟨fun v hv => ?_, fun v hv hl => ?_, fun v hv => ?_⟩
      · rcases head with ⟨y1, y2⟩ | ⟨b', y1, y2, _⟩
        · rw [y1] at b1; cases b1
        · rw [y1] at b1; cases b1; omega
      · rw [pI_r hr]; exact fr.1 r hr
      · rw [show (pI (pL H 49 (ev e) _) 50 _ _).2 r = H.2 r from ?_]
        · exact fr.2 r hr
        · funext y
          show (if r = 49 ∧ y = ev e then _ else H.2 r y) = _
          rw [if_neg (by omega)]
      · by_cases z1 : v = ev e
        · subst z1
          right
          refine ⟨a + ec e, if_pos rfl, ?_, by omega, by omega⟩
          show (if 49 = 49 ∧ ev e = ev e then _ else H.2 49 (ev e)).toInt = _
          rw [if_pos ⟨rfl, rfl⟩]
          exact sum a a1
        · have e49 : (pI (pL H 49 (ev e) (H.2 49 (eu e) + H.2 48 e)) 50 (ev e) (nI e)).2 49 v = H.2 49 v := if_neg (by omega)
          simp only
          rw [if_neg z1]
          rcases S1 v hv with w | ⟨b, w1, w2, w3, w4⟩
          · exact Or.inl ⟨w.1, e49.trans w.2⟩
          · exact Or.inr ⟨b, w1, by rw [← w2]; exact congrArg _ e49, by omega, by omega⟩
      · simp only [pI1, true_and]
        by_cases z1 : v = ev e
        · rw [if_pos z1, if_pos z1]
        · rw [if_neg z1, if_neg z1]
          simp only [if_neg z1] at hl
          exact S2 v hv hl
      · exact (if_neg (by omega)).trans (S3 v hv)
  · have nz : ¬ FAR.toInt ≤ (H.2 49 (eu e)).toInt := fun y => c17 ((lg_cmp_ge _ _).mpr ((fl_le _ _).mpr y))
    have z : ¬ (H.2 49 (eu e) + H.2 48 e).toInt < (H.2 49 (ev e)).toInt := fun y => c40 ((lg_cmp_lt _ _).mpr ((fl_lt _ _).mpr y))
    refine f (fun a ha => ?_)
    rw [sum a ha] at z
    obtain ⟨a1, a2, a3⟩ := st a ha
    rcases head with ⟨y1, y2⟩ | ⟨b, y1, y2, _⟩
    · rw [y2] at z; omega
    · exact ⟨b, y1, by omega⟩
def erH (h : HH) (e : Nat) : Prop := 0 < (h.1 47 e).toInt
theorem findPath_i {r : Nat} {g' : Int32} (N : Net eu ev ec (erH h) pt D) (E0 : EdR h eu ev ec) (hr : r < 7)
    (K : ∀ H lab pd ch, frS h H → DS H lab pd (60000000 * (30 * (r + 1 : Nat))) → BI eu ev ec (erH h) pt D (r + 1) ch (fun e => e < 30) lab pd → E X (d + 1) Ca_findPath 22 [.ref 43, .int g', .int (bI ch), .int (nI (r + 1)), .int (nI 30)] [] H Q) :
    ∀ (n e : Nat) (H : HH) (lab : Nat → Option Int) (pd : Nat → Nat) (ch : Bool), e + n = 30 → frS h H → DS H lab pd (60000000 * (30 * (r : Nat) + (e : Nat))) → BI eu ev ec (erH h) pt D (r + 1) ch (fun x => x < e) lab pd → E X (d + 1) Ca_findPath 37 [.ref 43, .int g', .int (bI ch), .int (nI r), .int (nI e)] [] H Q := by
  intro n
  induction n with
  | zero =>
    intro e H lab pd ch he fr S B
    obtain rfl : e = 30 := by omega
    refine (Ca_findPath_37 (Ca_findPath_39 (Ca_findPath_41 (fun c41 => (Ca_findPath_77 (Ca_findPath_80 ?_))) (fun c41 => ?_))))
    · rw [nI_1]
      refine K H lab pd ch fr ?_ B
      rw [show (60000000 : Int) * (30 * ((r + 1 : Nat) : Int)) = 60000000 * (30 * (r : Int) + ((30 : Nat) : Int)) by omega]
      exact S
    · exact absurd (Int32.le_refl _) c41
  | succ n ih =>
    intro e H lab pd ch he fr S B
    have r47 : H.1 47 e = h.1 47 e := by rw [fr.1 47 (by omega)]
    have ee : (60000000 : Int) * (30 * (r : Int) + ((e + 1 : Nat) : Int)) = 60000000 * (30 * (r : Int) + (e : Int)) + 60000000 := by omega
    have wk : DS H lab pd (60000000 * (30 * (r : Nat) + ((e + 1 : Nat)))) := by
      obtain ⟨S1, S2, S3⟩ := S
      refine ⟨fun v hv => ?_, S2, S3⟩
      rcases S1 v hv with z | ⟨a, a1, a2, a3, a4⟩
      · exact Or.inl z
      · exact Or.inr ⟨a, a1, a2, by omega, by omega⟩
    refine (Ca_findPath_37 (Ca_findPath_39 (Ca_findPath_41 (fun c41 => (Ca_findPath_77 (Ca_findPath_80 ?_))) (fun c41 => (Ca_findPath_44 (Ca_findPath_45 (Ca_findPath_46 (Ca_findPath_49 (Ca_findPath_51n (by first | assumption | exact rfl) (by omega) (Ca_findPath_52 (fun c52 => (Ca_findPath_68 (Ca_findPath_69 (Ca_findPath_70 (Ca_findPath_71 (Ca_findPath_74 ?_)))))) (fun c52 => (Ca_findPath_55 (Ca_findPath_56 (Ca_findPath_58 (Nat.le_of_ble_eq_true rfl) ?_))))))))))))))
    · exact absurd ((leN (show (30 : Int32) = nI 30 from rfl) rfl (by omega) (by omega)).mp c41) (by omega)
    · rw [r47] at c52
      have c52' := (fa_le _ _).mp c52
      rw [show (0 : Int32).toInt = 0 by decide] at c52'
      rw [bI_or0, nI_1]
      exact ih (e + 1) H lab pd ch (by omega) fr wk (BI_skip (e := e) B (fun x hx => by omega) (fun re => by unfold erH at re; omega))
    · rw [r47] at c52
      have re : 0 < (h.1 47 e).toInt := by
        have : ¬ (h.1 47 e).toInt ≤ (0 : Int32).toInt := fun y => c52 ((fa_le _ _).mpr y)
        rw [show (0 : Int32).toInt = 0 by decide] at this
        omega
      refine comeNearer_c E0 fr S (by omega) re (by omega) (by omega) (fun a H' la no fr' S' => ?_) (fun ok => ?_)
      · refine (Ca_findPath_61 (fun z => absurd z (by decide)) (fun _ => (Ca_findPath_64 (Ca_findPath_65 (Ca_findPath_69 (Ca_findPath_70 (Ca_findPath_71 (Ca_findPath_74 ?_))))))))
        rw [bI_or1, nI_1]
        refine ih (e + 1) H' _ _ true (by omega) fr' (by rw [ee]; exact S') ?_
        exact BI_relax N B (by omega) re la no (by omega) rfl (fun x hx => by omega) (if_pos rfl) (fun v hv => if_neg hv) (if_pos rfl) (fun v hv => if_neg hv)
      · refine (Ca_findPath_61 (fun _ => (Ca_findPath_68 (Ca_findPath_69 (Ca_findPath_70 (Ca_findPath_71 (Ca_findPath_74 ?_)))))) (fun z => absurd z (by decide)))
        rw [bI_or0, nI_1]
        exact ih (e + 1) H lab pd ch (by omega) fr wk (BI_skip (e := e) B (fun x hx => by omega) (fun _ => ok))
theorem BI_mono {k : Nat} {ch : Bool} {er dn dn' : Nat → Prop} {lab : Nat → Option Int} {pd : Nat → Nat} (H : BI eu ev ec er pt D k ch dn lab pd) (hd : ∀ x, dn' x → dn x) : BI eu ev ec er pt D k ch dn' lab pd := by
  obtain ⟨ta, cg, T, h1, h2, h3, h4, h5, h6⟩ := H
  exact ⟨ta, cg, T, h1, h2, h3, h4, h5, fun e a he re la => ⟨fun z => (h6 e a he re la).1 (hd e z), (h6 e a he re la).2⟩⟩
theorem findPath_x {r g0 : Nat} {a4 : Value} {H : HH} {lab : Nat → Option Int} {pd : Nat → Nat} {nr : Int32} {c : Int} (S : DS H lab pd c) (hc : c < 1152921504606846976) (hg : g0 < 6) (K : ∀ b : Bool, (b = true ↔ ∃ a, lab g0 = some a) → Q (bI b) H) : E X (d + 1) Ca_findPath 83 [.ref 43, .int (nI g0), .int nr, .int (nI r), a4] [] H Q := by
  have F1 := FAR_i
  have S1 := S.1 g0 (by omega)
  refine (Ca_findPath_83 (Ca_findPath_84 (Ca_findPath_87 (Ca_findPath_88n (by first | assumption | exact rfl) (by omega) (Ca_findPath_89 (Ca_findPath_92 (Ca_findPath_93 (fun c93 => (Ca_findPath_100 (Ca_findPath_101 rfl ?_))) (fun c93 => (Ca_findPath_96 (Ca_findPath_97 (Ca_findPath_101 rfl ?_)))))))))))
  · refine K false ⟨(fun z => by cases z), fun ⟨a, ha⟩ => ?_⟩
    have z := (fl_le _ _).mp ((lg_cmp_ge _ _).mp c93)
    rcases S1 with ⟨y1, y2⟩ | ⟨b, b1, b2, b3, b4⟩
    · rw [y1] at ha; cases ha
    · rw [b2, show (1152921504606846976 : Int64).toInt = 1152921504606846976 by decide] at z
      omega
  · refine K true ⟨fun _ => ?_, fun _ => rfl⟩
    have z : ¬ (1152921504606846976 : Int64).toInt ≤ (H.2 49 g0).toInt := fun y => c93 ((lg_cmp_ge _ _).mpr ((fl_le _ _).mpr y))
    rcases S1 with ⟨y1, y2⟩ | ⟨b, b1, b2, b3, b4⟩
    · rw [y2, F1] at z
      exact absurd (by decide) z
    · exact ⟨b, b1⟩
theorem findPath_o {g0 : Nat} (N : Net eu ev ec (erH h) pt D) (E0 : EdR h eu ev ec) (hg : g0 < 6)
    (K : ∀ H lab pd rk b, frS h H → DS H lab pd 20000000000 → Conv eu ev ec (erH h) pt D lab pd rk → ((b : Bool) = true ↔ ∃ a, lab g0 = some a) → Q (bI b) H) :
    ∀ (n r : Nat) (H : HH) (lab : Nat → Option Int) (pd : Nat → Nat) (ch : Bool) (a4 : Value), r + n = 7 → 1 ≤ r → frS h H → DS H lab pd (60000000 * (30 * (r : Nat))) → BI eu ev ec (erH h) pt D r ch (fun e => e < 30) lab pd → E X (d + 1) Ca_findPath 22 [.ref 43, .int (nI g0), .int (bI ch), .int (nI r), a4] [] H Q := by
  intro n
  induction n with
  | zero =>
    intro r H lab pd ch a4 hr r1 fr S B
    obtain rfl : r = 7 := by omega
    have wk : DS H lab pd 20000000000 := by
      obtain ⟨S1, S2, S3⟩ := S
      refine ⟨fun v hv => ?_, S2, S3⟩
      rcases S1 v hv with z | ⟨a, a1, a2, a3, a4⟩
      · exact Or.inl z
      · exact Or.inr ⟨a, a1, a2, by omega, by omega⟩
    obtain ⟨rk, C⟩ := BI_conv N B (fun e he _ => he) (Or.inr (by have := N.2.1; omega))
    refine (Ca_findPath_22 (Ca_findPath_23 (Ca_findPath_25 (fun c25 => ?_) (fun c25 => ?_))))
    · exact findPath_x (r := 7) wk (by omega) hg (fun b hb => K H lab pd rk b fr wk C hb)
    · exact absurd (Int32.le_refl _) c25
  | succ n ih =>
    intro r H lab pd ch a4 hr r1 fr S B
    have wk : DS H lab pd 20000000000 := by
      obtain ⟨S1, S2, S3⟩ := S
      refine ⟨fun v hv => ?_, S2, S3⟩
      rcases S1 v hv with z | ⟨a, a1, a2, a3, a4⟩
      · exact Or.inl z
      · exact Or.inr ⟨a, a1, a2, by omega, by omega⟩
    refine (Ca_findPath_22 (Ca_findPath_23 (Ca_findPath_25 (fun c25 => ?_) (fun c25 => (Ca_findPath_28 (Ca_findPath_29 (fun c29 => ?_) (fun c29 => (Ca_findPath_32 (Ca_findPath_33 (Ca_findPath_34 (Ca_findPath_35 ?_)))))))))))
    · exact absurd ((leN (show (7 : Int32) = nI 7 from rfl) rfl (by omega) (by omega)).mp c25) (by omega)
    · obtain ⟨rk, C⟩ := BI_conv N B (fun e he _ => he) (Or.inl (bI_0.mp c29))
      exact findPath_x (r := r) wk (by omega) hg (fun b hb => K H lab pd rk b fr wk C hb)
    · refine findPath_i (r := r) N E0 (by omega) (fun H' lab' pd' ch' fr' S' B' => ih (r + 1) H' lab' pd' ch' _ (by omega) (by omega) fr' S' B') 30 0 H lab pd false (by omega) fr ?_ ?_
      · rw [show (60000000 : Int) * (30 * (r : Int) + ((0 : Nat) : Int)) = 60000000 * (30 * (r : Int)) by omega]; exact S
      · have B2 := BI_next B (fun e he _ => he)
        exact BI_mono B2 (fun x hx => absurd hx (by omega))
def lab0 : Nat → Option Int := fun v => if v = 6 then some 0 else none
theorem BI_0 {er : Nat → Prop} {pd : Nat → Nat} (N : Net eu ev ec er pt D) : BI eu ev ec er pt D 1 false (fun e => e < 0) lab0 pd := by
  refine ⟨fun _ => 0, fun _ => 0, 1, if_pos rfl, rfl, fun v => Nat.zero_lt_one, fun v a la => ?_, fun v a hv la => ?_, fun e a he re la => ⟨fun z => absurd z (by omega), fun z => absurd z (by omega)⟩⟩
  · unfold lab0 at la
    by_cases z : v = 6
    · subst z
      rw [if_pos rfl] at la
      cases la
      exact ⟨by rw [N.1]; exact Int.le_refl _, Nat.zero_le _, fun _ => Nat.le_refl _, Or.inr rfl⟩
    · rw [if_neg z] at la; cases la
  · unfold lab0 at la
    rw [if_neg hv] at la; cases la
theorem findPath_c {g0 : Nat} (N : Net eu ev ec (erH h) pt D) (E0 : EdR h eu ev ec) (hg : g0 < 6)
    (K : ∀ H lab pd rk b, frS h H → DS H lab pd 20000000000 → Conv eu ev ec (erH h) pt D lab pd rk → ((b : Bool) = true ↔ ∃ a, lab g0 = some a) → Q (bI b) H) : E X (d + 1) Ca_findPath 0 [.ref 43, .int (nI g0), U0, U0, U0] [] h Q := by
  refine (Ca_findPath_0 (Ca_findPath_1 (Ca_findPath_4 (Ca_findPath_7 (Nat.le_of_ble_eq_true rfl) ?_))))
  refine JA_fillJ_c (n := 7) rfl (by omega) ?_
  refine (Ca_findPath_10 (Ca_findPath_11 (Ca_findPath_14 (Ca_findPath_16 (Ca_findPath_17n (show (6 : Int32) = nI 6 from rfl) (by omega) (Ca_findPath_18 (Ca_findPath_19 (Ca_findPath_20 (Ca_findPath_21 (Ca_findPath_22 (Ca_findPath_23 (Ca_findPath_25 (fun z => absurd z (by decide)) (fun _ => (Ca_findPath_28 (Ca_findPath_29 (fun z => absurd z (by decide)) (fun _ => (Ca_findPath_32 (Ca_findPath_33 (Ca_findPath_34 (Ca_findPath_35 ?_))))))))))))))))))))
  refine findPath_i (r := 0) (h := h) (eu := eu) (ev := ev) (ec := ec) (pt := pt) (D := D) N E0 (by omega) (fun H' lab' pd' ch' fr' S' B' => findPath_o N E0 hg K 6 1 H' lab' pd' ch' _ (by omega) (by omega) fr' S' B') 30 0 _ lab0 (fun _ => 0) false (by omega) ⟨fun r hr => rfl, fun r hr => ?_⟩ ⟨fun v hv => ?_, fun v hv hl => ?_, fun v hv => if_neg (by omega)⟩ (BI_0 N)
  · funext y
    show (if r = 49 ∧ y = 6 then _ else if r = 49 ∧ y < 7 then _ else h.2 r y) = h.2 r y
    rw [if_neg (by omega), if_neg (by omega)]
  · by_cases z : v = 6
    · subst z
      refine Or.inr ⟨0, if_pos rfl, ?_, by omega, by omega⟩
      show (if 49 = 49 ∧ 6 = 6 then (0 : Int64) else _).toInt = 0
      rw [if_pos ⟨rfl, rfl⟩]; rfl
    · refine Or.inl ⟨if_neg z, ?_⟩
      show (if 49 = 49 ∧ v = 6 then (0 : Int64) else if 49 = 49 ∧ v < 7 then _ else _) = FAR
      rw [if_neg (by omega), if_pos ⟨rfl, hv⟩]; rfl
  · obtain ⟨a, ha⟩ := hl
    unfold lab0 at ha
    rw [if_neg (by omega)] at ha; cases ha
end FP
