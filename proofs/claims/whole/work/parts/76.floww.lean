/-! the model's flow, from its start -/
section FW
variable {X : SX} {d g D W keep : Nat} {h : HH} {Q : Int32 → HH → Prop} {f t : Nat → Nat} {p cp sp pt : Nat → Int}
theorem widest_c {x z : Nat → Int} {lab : Nat → Option Int} {pd rk : Nat → Nat} {m c a : Int} {q : Int32} (M : MdH h f t p W D g) (S : Szm f t p cp sp W D g) (F : Feas f t cp sp W D g x z m) (T : TM h cp sp W D g x z) (L : DM h lab pd c D) (C : Conv (eU f t) (eV f t) (eC p) (erM f t cp sp W D g x z) pt D lab pd rk) (la : lab g = some a) (q0 : 0 < q.toInt)
    (K : ∀ q' : Int32, 0 < q'.toInt → q'.toInt ≤ q.toInt → pok (rs cp sp W D x z) (eU f t) pd q'.toInt 6 g → Q q' h) : E X (d + 1) FM_widest 0 [.ref 57, .int (nI g), .int q, U0, U0, U0] [] h Q := by
  have rk6 : rk g ≤ 6 := by have := (C.2.2.1 g a la).2.2; have := M.2.1; omega
  refine (FM_widest_0 (FM_widest_1 (FM_widest_2 (FM_widest_3 ?_))))
  exact widest_l M S F T L C 6 g a q _ rk6 M.2.2.1 la q0 K
theorem goes_c {x z : Nat → Int} {lab : Nat → Option Int} {pd rk : Nat → Nat} {c a : Int} {q : Int32} {s : (Nat → Int) × (Nat → Int)} (M : MdH h f t p W D g) (L : DM h lab pd c D) (C : Conv (eU f t) (eV f t) (eC p) (erM f t cp sp W D g x z) pt D lab pd rk) (la : lab g = some a) (T : TO h sp W D g s)
    (K : ∀ H', frG h H' → TO H' sp W D g (aug (eU f t) pd q.toInt 6 g s) → Q 0 H') : E X d FM_goes 0 [.ref 57, .int (nI g), .int q, U0, U0] [] h Q := by
  have rk6 : rk g ≤ 6 := by have := (C.2.2.1 g a la).2.2; have := M.2.1; omega
  refine (FM_goes_0 (FM_goes_1 ?_))
  exact goes_l M L C 6 g a h s _ rk6 M.2.2.1 la ⟨fun _ _ _ => rfl, rfl⟩ T K
def frL (h H : HH) : Prop := (∀ r, r ≠ 88 → r ≠ 89 → r ≠ 90 → r ≠ 91 → H.1 r = h.1 r) ∧ H.2 = h.2
theorem MdH_cg {H : HH} (M : MdH h f t p W D g) (e : ∀ r, r ≠ 87 → r ≠ 88 → r ≠ 89 → r ≠ 90 → r ≠ 91 → H.1 r = h.1 r) : MdH H f t p W D g := by
  unfold MdH
  rw [e 57 (by omega) (by omega) (by omega) (by omega) (by omega), e 80 (by omega) (by omega) (by omega) (by omega) (by omega), e 81 (by omega) (by omega) (by omega) (by omega) (by omega), e 83 (by omega) (by omega) (by omega) (by omega) (by omega)]
  exact M
theorem flow_1 {a1 a2 a3 : Int32} {a5 a6 : Value} (hW : h.1 57 31 = nI W) (W12 : W ≤ 12) (K : E X d FM_flow 29 [.ref 57, .int a1, .int a2, .int a3, .int (nI 0), a5, a6] [] (fR h 88 0 W 0) Q) : ∀ (n w : Nat), w + n = W → E X d FM_flow 3 [.ref 57, .int a1, .int a2, .int a3, .int (nI w), a5, a6] [] (fR h 88 0 w 0) Q := by
  intro n
  induction n with
  | zero =>
    intro w hw
    obtain rfl : w = W := by omega
    have x1 : (fR h 88 0 w 0).1 57 31 = nI w := hW
    refine (FM_flow_3 (FM_flow_5 (FM_flow_6 (FM_flow_9 (fun c9 => (FM_flow_26 (FM_flow_27 ?_))) (fun c9 => ?_)))))
    · exact K
    · rw [x1] at c9; exact absurd (Int32.le_refl _) c9
  | succ n ih =>
    intro w hw
    have x1 : (fR h 88 0 w 0).1 57 31 = nI W := hW
    have s := fR_s (h := h) (i := 88) (b := 0) (n := w) (v := 0)
    rw [Nat.zero_add] at s
    refine (FM_flow_3 (FM_flow_5 (FM_flow_6 (FM_flow_9 (fun c9 => (FM_flow_26 (FM_flow_27 ?_))) (fun c9 => (FM_flow_12 (FM_flow_13 (FM_flow_16 (FM_flow_18 (FM_flow_19n (by first | assumption | exact rfl) (by omega) (FM_flow_20 (FM_flow_23 ?_))))))))))))
    · rw [x1] at c9; exact absurd ((leN rfl rfl (by omega) (by omega)).mp c9) (by omega)
    · rw [s, nI_1]
      exact ih (w + 1) (by omega)
/-- the stores, as the model reads them -/
def MdS (h : HH) (sp : Nat → Int) (D g keep : Nat) : Prop := keep ≤ 99999 ∧ ∀ d, d < D → 0 ≤ (h.1 58 d).toInt ∧ (h.1 58 d).toInt ≤ 99999 ∧ 0 ≤ sp d ∧ (d = g → sp d = 0) ∧ (d ≠ g → (h.1 58 d).toInt ≤ keep → sp d = 0) ∧ (d ≠ g → keep ≤ (h.1 58 d).toInt → sp d = (h.1 58 d).toInt - keep)
def LI (h H : HH) (sp : Nat → Int) (g n : Nat) : Prop := (∀ r, r ≠ 89 → H.1 r = h.1 r) ∧ H.2 = h.2 ∧ ∀ v, v < n → v ≠ g → H.1 89 v = Int32.ofInt (sp v)
theorem LI_s {H : HH} {n : Nat} {y : Int32} (I : LI h H sp g n) (e : n ≠ g → y = Int32.ofInt (sp n)) : LI h (pI H 89 n y) sp g (n + 1) := by
  obtain ⟨i1, i2, i3⟩ := I
  refine ⟨fun r a => by rw [pI_r a]; exact i1 r a, i2, fun v hv ng => ?_⟩
  simp only [pI1, true_and]
  by_cases z : v = n
  · subst z; rw [if_pos rfl]; exact e ng
  · rw [if_neg z]; exact i3 v (by omega) ng
theorem flow_2 {a1 a2 : Int32} {a5 a6 : Value} (hD : h.1 57 1 = nI D) (D6 : D ≤ 6) (St : MdS h sp D g keep) (K : ∀ H (b5 b6 : Value), LI h H sp g D → E X d FM_flow 81 [.ref 57, .int a1, .int a2, .int (nI keep), .int a2, .int 0, b6] [] H Q) : ∀ (n v : Nat) (H : HH), v + n = D → LI h H sp g v → E X d FM_flow 29 [.ref 57, .int a1, .int a2, .int (nI keep), .int (nI v), a5, a6] [] H Q := by
  obtain ⟨kp, st⟩ := St
  intro n
  induction n with
  | zero =>
    intro v H hv I
    obtain rfl : v = D := by omega
    have x1 : H.1 57 1 = nI v := by rw [I.1 57 (by omega)]; exact hD
    refine (FM_flow_29 (FM_flow_31 (FM_flow_32 (FM_flow_35 (fun c35 => (FM_flow_75 (FM_flow_76 (FM_flow_78 (FM_flow_79 ?_))))) (fun c35 => ?_)))))
    · exact K H a5 _ I
    all_goals (rw [x1] at c35; exact absurd (Int32.le_refl _) c35)
  | succ n ih =>
    intro v H hv I
    have x1 : H.1 57 1 = nI D := by rw [I.1 57 (by omega)]; exact hD
    have x58 : H.1 58 v = h.1 58 v := by rw [I.1 58 (by omega)]
    obtain ⟨s1, s2, s3, s4, s5, s6⟩ := st v (by omega)
    have k0 : (nI keep).toInt = keep := nI_toInt (by omega)
    refine (FM_flow_29 (FM_flow_31 (FM_flow_32 (FM_flow_35 (fun c35 => (FM_flow_75 (FM_flow_76 (FM_flow_78 (FM_flow_79 ?_))))) (fun c35 => (FM_flow_38 (FM_flow_39 (FM_flow_42 (FM_flow_44 (FM_flow_45 (FM_flow_48 (FM_flow_50n (by first | assumption | exact rfl) (by omega) (FM_flow_51 (FM_flow_52 (fun c52 => (FM_flow_67 (FM_flow_68n (by first | assumption | exact rfl) (by omega) (FM_flow_69 (FM_flow_72 ?_))))) (fun c52 => (FM_flow_55 (FM_flow_56 (FM_flow_59 (FM_flow_61n (by first | assumption | exact rfl) (by omega) (FM_flow_62 (FM_flow_63 (FM_flow_64 (FM_flow_68n (by first | assumption | exact rfl) (by omega) (FM_flow_69 (FM_flow_72 ?_)))))))))))))))))))))))))
    · rw [x1] at c35; exact absurd ((leN rfl rfl (by omega) (by omega)).mp c35) (by omega)
    · have q := (fa_le _ _).mp c52
      rw [x58, k0] at q
      rw [nI_1]
      refine ih (v + 1) _ (by omega) (LI_s I (fun ng => ?_))
      rw [s5 ng q]; rfl
    · have q : ¬ (H.1 58 v).toInt ≤ (nI keep).toInt := fun y => c52 ((fa_le _ _).mpr y)
      rw [x58, k0] at q
      rw [nI_1]
      refine ih (v + 1) _ (by omega) (LI_s I (fun ng => ?_))
      have sb : (h.1 58 v - nI keep).toInt = (h.1 58 v).toInt - keep := by rw [i32_sub (by rw [k0]; omega) (by rw [k0]; omega), k0]
      rw [x58, s6 ng (by omega), ← sb, Int32.ofInt_toInt]
theorem flow_l {n : Nat} (M : MdH h f t p W D g) (S : Szm f t p cp sp W D g) (c87 : ∀ w, w < W → (h.1 87 w).toInt = cp w) (hn : n ≤ 9999)
    (K1 : ∀ H x z, frL h H → Feas f t cp sp W D g x z n → (∀ x' z', Feas f t cp sp W D g x' z' n → kc p W x ≤ kc p W x') → (∀ w, w < W → (H.1 88 w).toInt = x w) → Q (Int32.ofInt (kc p W x)) H)
    (K0 : ∀ H, frL h H → (∀ x z, ¬ Feas f t cp sp W D g x z n) → Q 1000000000 H) : ∀ (n' m : Nat) (H : HH) (x z pt : Nat → Int) (s : Int32) (a6 : Value), n - m ≤ n' → m ≤ n → frL h H → TO H sp W D g (x, z) → Feas f t cp sp W D g x z m → Vali f t p cp sp W D pt x z → s = Int32.ofInt (kc p W x) →
    E X (d + 2) FM_flow 81 [.ref 57, .int (nI g), .int (nI n), .int (nI keep), .int (nI (n - m)), .int s, a6] [] H Q := by
  have D6 : D ≤ 6 := S.1.2.1
  have gD : g < D := S.1.2.2.1
  intro n'
  induction n' with
  | zero =>
    intro m H x z pt s a6 hm mn fr T F V hs
    obtain rfl : m = n := by omega
    have c87' : ∀ w, w < W → (H.1 87 w).toInt = cp w := fun w hw => by rw [fr.1 87 (by omega) (by omega) (by omega) (by omega)]; exact c87 w hw
    have TT := TM_of S F T c87'
    refine (FM_flow_81 (FM_flow_83 (fun c83 => (FM_flow_147 (FM_flow_149 ?_))) (fun c83 => (FM_flow_86 (FM_flow_87 (FM_flow_88 (Nat.le_of_ble_eq_true rfl) ?_))))))
    · rw [hs]
      exact K1 H x z fr F (fun x' z' F' => weak_dual S.1 F F' V) (fun w hw => (TT.1 w hw).2)
    · exact absurd ((leN (show nI (m - m) = nI (m - m) from rfl) (show (0 : Int32) = nI 0 from rfl) (by omega) (by omega)).mpr (by omega)) c83
  | succ n' ih =>
    intro m H x z pt s a6 hm mn fr T F V hs
    have c87' : ∀ w, w < W → (H.1 87 w).toInt = cp w := fun w hw => by rw [fr.1 87 (by omega) (by omega) (by omega) (by omega)]; exact c87 w hw
    have TT := TM_of S F T c87'
    have M1 : MdH H f t p W D g := MdH_cg M (fun r _ a b c e => fr.1 r a b c e)
    refine (FM_flow_81 (FM_flow_83 (fun c83 => (FM_flow_147 (FM_flow_149 ?_))) (fun c83 => (FM_flow_86 (FM_flow_87 (FM_flow_88 (Nat.le_of_ble_eq_true rfl) ?_))))))
    · have q : n - m ≤ 0 := (leN (show nI (n - m) = nI (n - m) from rfl) (show (0 : Int32) = nI 0 from rfl) (by omega) (by omega)).mp c83
      obtain rfl : m = n := by omega
      rw [hs]
      exact K1 H x z fr F (fun x' z' F' => weak_dual S.1 F F' V) (fun w hw => (TT.1 w hw).2)
    · have q : ¬ n - m ≤ 0 := fun y => c83 ((leN (show nI (n - m) = nI (n - m) from rfl) (show (0 : Int32) = nI 0 from rfl) (by omega) (by omega)).mpr y)
      refine findFar_c M1 TT V (by have := F.2.1 g gD; have := S.2.2.2; omega) (fun H' lab pd rk fr' L C => ?_)
      have M2 : MdH H' f t p W D g := MdH_cg M1 (fun r _ _ _ a b => fr'.1 r a b)
      have T2 : TM H' cp sp W D g x z := by unfold TM; rw [fr'.1 87 (by omega) (by omega), fr'.1 88 (by omega) (by omega), fr'.1 89 (by omega) (by omega)]; exact TT
      have TO2 : TO H' sp W D g (x, z) := by unfold TO; rw [fr'.1 88 (by omega) (by omega), fr'.1 89 (by omega) (by omega)]; exact T
      have frl : frL h H' := ⟨fun r a b c e => (fr'.1 r c e).trans (fr.1 r a b c e), fr'.2.trans fr.2⟩
      have haa : ∀ e, e < 30 → 0 < rs cp sp W D x z e → eU f t e ≠ g → erM f t cp sp W D g x z e := fun e _ r ne => ⟨r, ne⟩
      refine (FM_flow_91 (FM_flow_92 (FM_flow_95 (FM_flow_96n (by first | assumption | exact rfl) (by omega) (FM_flow_97 (FM_flow_100 (fun c100 => ?_) (fun c100 => (FM_flow_103 (FM_flow_106 ?_)))))))))
      · rcases L g gD with ⟨_, l2⟩ | ⟨a, la, l2, l3, l4, _⟩
        · exact absurd l2 c100
        · refine (FM_flow_107 (FM_flow_108 (FM_flow_109 (FM_flow_111 (Nat.le_of_ble_eq_true rfl) ?_))))
          refine widest_c M2 S F T2 L C la (by rw [nI_toInt (by omega)]; omega) (fun qq q0 q1 pk => ?_)
          rw [nI_toInt (by omega)] at q1
          refine (FM_flow_114 (FM_flow_116 (FM_flow_118 (FM_flow_120 (FM_flow_121 (FM_flow_124 (FM_flow_125n (by first | assumption | exact rfl) (by omega) (FM_flow_126 (FM_flow_127 (FM_flow_128 (FM_flow_130 (FM_flow_131 (FM_flow_132 (FM_flow_134 (Nat.le_of_ble_eq_true rfl) ?_))))))))))))))
          refine goes_c M2 L C la TO2 (fun H'' fr'' T'' => ?_)
          have rk6 : rk g ≤ 6 := by have := (C.2.2.1 g a la).2.2; omega
          obtain ⟨G1, G2, ⟨pt', G3⟩, G4⟩ := grow (x' := (aug (eU f t) pd qq.toInt 6 g (x, z)).1) (z' := (aug (eU f t) pd qq.toInt 6 g (x, z)).2) S.1 F V C (fun e re => re.1) haa q0 la rk6 pk rfl
          have qn := nI_ofq (q := qq) (by omega)
          generalize hqn : qq.toInt.toNat = qN at qn
          have qN' : (qN : Int) = qq.toInt := by omega
          refine (FM_flow_137 (FM_flow_139 (FM_flow_141 (FM_flow_142 (FM_flow_144 ?_)))))
          rw [nI_subE (show nI (n - m) = nI (n - m) from rfl) qn (by omega), show n - m - qN = n - (m + qN) by omega]
          refine ih (m + qN) H'' (aug (eU f t) pd qq.toInt 6 g (x, z)).1 (aug (eU f t) pd qq.toInt 6 g (x, z)).2 pt' _ _ (by omega) (by omega) ⟨fun r a b c e => (fr''.1 r a b).trans (frl.1 r a b c e), fr''.2.trans frl.2⟩ T'' (by rw [show ((m + qN : Nat) : Int) = m + qq.toInt by omega]; exact G1) G3 ?_
          rw [G2, Int32.ofInt_add, Int32.ofInt_mul, Int32.ofInt_toInt, hs, ← l2, Int32.ofInt_toInt]
      · have lg : lab g = none := by
          rcases L g gD with ⟨l1, _⟩ | ⟨a, la, l2, l3, l4, _⟩
          · exact l1
          · rw [c100, FARm] at l2; omega
        exact K0 H' frl (fun x' z' F' => by have := cut S.1 F C haa lg F'; omega)
theorem kc_0 : kc p W (fun _ => 0) = 0 := smI_0 W (fun _ _ => Int.mul_zero _)
theorem flow_c {n : Nat} (M : MdH h f t p W D g) (St : MdS h sp D g keep) (c87 : ∀ w, w < W → (h.1 87 w).toInt = cp w ∧ 0 ≤ cp w ∧ cp w ≤ 999) (hn : n ≤ 9999)
    (K1 : ∀ H x z, frL h H → Feas f t cp sp W D g x z n → (∀ x' z', Feas f t cp sp W D g x' z' n → kc p W x ≤ kc p W x') → (∀ w, w < W → (H.1 88 w).toInt = x w) → Q (Int32.ofInt (kc p W x)) H)
    (K0 : ∀ H, frL h H → (∀ x z, ¬ Feas f t cp sp W D g x z n) → Q 1000000000 H) :
    E X (d + 2) FM_flow 0 [.ref 57, .int (nI g), .int (nI n), .int (nI keep), U0, U0, U0] [] h Q := by
  have M0 := M
  obtain ⟨W12, D6, gD, hW, hD, en⟩ := M
  have S : Szm f t p cp sp W D g := ⟨⟨W12, D6, gD, fun w hw => ⟨(en w hw).1, (en w hw).2.1, (en w hw).2.2.1⟩⟩, fun w hw => ⟨(en w hw).2.2.2.2.2.2.1, (en w hw).2.2.2.2.2.2.2, (c87 w hw).2.1, (c87 w hw).2.2⟩, fun d hd => by
    obtain ⟨s1, s2, s3, s4, s5, s6⟩ := St.2 d hd
    have := St.1
    by_cases z : d = g
    · have := s4 z; omega
    · by_cases y : (h.1 58 d).toInt ≤ keep
      · have := s5 z y; omega
      · have := s6 z (by omega); omega, (St.2 g gD).2.2.2.1 rfl⟩
  refine (FM_flow_0 (FM_flow_1 ?_))
  have fk := flow_1 (X := X) (d := d + 2) (h := h) (Q := Q) (a1 := nI g) (a2 := nI n) (a3 := nI keep) (a5 := U0) (a6 := U0) hW W12 ?_ W 0 (by omega)
  · rw [fR_0] at fk
    exact fk
  · have z1 : ∀ r, r ≠ 88 → (fR h 88 0 W 0).1 r = h.1 r := fun r hr => fR_r hr
    refine flow_2 (h := fR h 88 0 W 0) (by rw [z1 57 (by omega)]; exact hD) D6 (by unfold MdS; rw [z1 58 (by omega)]; exact St) (fun H b5 b6 I => ?_) D 0 _ (by omega) ⟨fun _ _ => rfl, rfl, fun v hv => absurd hv (by omega)⟩
    refine flow_l M0 S (fun w hw => (c87 w hw).1) hn K1 K0 n 0 H (fun _ => 0) (fun _ => 0) (fun _ => 0) 0 _ (by omega) (Nat.zero_le _) ⟨fun r a b _ _ => by rw [I.1 r b, z1 r a], I.2.1⟩ ⟨fun w hw => ?_, fun v hv ng => ?_⟩ ⟨fun w hw => ?_, fun w hw => ?_, fun w hw => ?_⟩ ⟨rfl, fun e he re => ?_, fun w hw _ => Int.le_refl _⟩ (by rw [kc_0]; rfl)
    · rw [I.1 88 (by omega)]
      exact if_pos ⟨rfl, Nat.zero_le _, by omega⟩
    · show H.1 89 v = Int32.ofInt (sp v - 0)
      rw [Int.sub_zero]
      exact I.2.2 v hv ng
    · have y := S.2.1 w hw
      show (0 : Int) ≤ 0 ∧ 0 ≤ cp w
      omega
    · have y := S.2.2.1 w hw
      show (0 : Int) ≤ 0 ∧ 0 ≤ sp w
      omega
    · unfold nt
      rw [smI_0 W (fun i _ => by rw [ite_self, ite_self]; rfl)]
      show (0 : Int) + 0 = if w = g then 0 else 0
      rw [ite_self]; rfl
    · show (0 : Int) ≤ 0 + eC p e
      rcases rs_cs re with ⟨w, w1, w2, w3⟩ | ⟨w, w1, w2, w3⟩ | ⟨w, w1, w3⟩
      · have := S.2.1 w w1
        rw [w3, eC_f w2]; omega
      · rw [w3, rs_b w1 W12] at re
        exact absurd re (by decide)
      · rw [w3, eC_g]; omega
end FW
