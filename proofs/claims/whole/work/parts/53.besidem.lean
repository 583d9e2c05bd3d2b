section BM
variable {X : SX} {d S w L D c m o k : Nat} {h H : HH} {Q : Int32 → HH → Prop} {wg F g v x y acc : Int32} {s t : EC}
theorem FM_beside_i {a1 a2 a3 : Int32} (hs : iSigns h 4 S w) (hn : iLines h 9 L 79) (mS : h.1 57 15 = nI S) (mL : h.1 57 21 = nI L) (hwk : h.1 57 10 = nI w) (hc : w + k < 60) (mD : h.1 57 1 = nI D) (h6 : D ≤ 6) (hwg : h.1 57 11 = wg) (hwg' : isN wg 0 99) (hrow : ∀ r, r < 41 ∨ (64 < r ∧ r < 92) → H.1 r = h.1 r) (h57 : H.1 57 = h.1 57) (hk : ∀ d, d < D → eOk t d)
    (K : E X (d + 5) FM_beside 97 [.ref 57, .int g, .int a1, .int a2, .int a3, .int (acc + (wkS (ob h S L (nI w) g (w + k) (nI w)) wg t D).2), .int (nI (k + 1)), .int (nI D)] [] (sM H (wkS (ob h S L (nI w) g (w + k) (nI w)) wg t D).1) Q) :
    ∀ (n i : Nat), i + n = D → E X (d + 5) FM_beside 118 [.ref 57, .int g, .int a1, .int a2, .int a3, .int (acc + (wkS (ob h S L (nI w) g (w + k) (nI w)) wg t i).2), .int (nI k), .int (nI i)] [] (sM H (wkS (ob h S L (nI w) g (w + k) (nI w)) wg t i).1) Q := by
  intro n
  induction n with
  | zero =>
    intro i hi
    obtain rfl : i = D := by omega
    have eD : (sM H (wkS (ob h S L (nI w) g (w + k) (nI w)) wg t i).1).1 57 1 = nI i := by rw [sM_57 (by omega), h57, mD]
    refine (FM_beside_118 (FM_beside_120 (FM_beside_121 (FM_beside_124 (fun c124 => (FM_beside_166 (FM_beside_169 ?_))) (fun c124 => ?_)))))
    · rw [nI_1]; exact K
    · rw [eD] at c124; exact absurd (Int32.le_refl _) c124
  | succ n ih =>
    intro i hi
    have hL12 := hn.1
    have hr2 : ∀ r, r < 41 ∨ (64 < r ∧ r < 92) → (sM H (wkS (ob h S L (nI w) g (w + k) (nI w)) wg t i).1).1 r = h.1 r := fun r hr => by rw [sM_row (by omega), hrow r hr]
    have hcel : ∀ j, j < 12 ∨ 14 < j → (sM H (wkS (ob h S L (nI w) g (w + k) (nI w)) wg t i).1).1 57 j = h.1 57 j := fun j hj => by rw [sM_57 hj, h57]
    have eD := (hcel 1 (by omega)).trans mD
    have eW := (hcel 10 (by omega)).trans hwk
    have eS := (hcel 15 (by omega)).trans mS
    have eL := (hcel 21 (by omega)).trans mL
    have gg : sg h (sM H (wkS (ob h S L (nI w) g (w + k) (nI w)) wg t i).1) := fun r r1 r2 => hr2 r (by omega)
    generalize eh : sM H (wkS (ob h S L (nI w) g (w + k) (nI w)) wg t i).1 = h' at *
    have hs' : iSigns h' 4 S w := iSigns_cg (by simp only [hr2 4 (by omega), hr2 (4 + 1) (by omega), hr2 (4 + 2) (by omega), hr2 (4 + 3) (by omega), hr2 (4 + 4) (by omega)]; simp) (fun k _ => by simp only [gg 66 (by omega) (by omega), gg 67 (by omega) (by omega), gg 68 (by omega) (by omega), gg 69 (by omega) (by omega), gg 70 (by omega) (by omega)]; simp) hs
    have hn' : iLines h' 9 L 79 := iLines_cg (by simp only [hr2 9 (by omega), hr2 (9 + 1) (by omega)]; simp) (fun k _ => by simp only [gg 71 (by omega) (by omega), gg 72 (by omega) (by omega), gg 73 (by omega) (by omega), gg 74 (by omega) (by omega), gg 75 (by omega) (by omega), gg 76 (by omega) (by omega), gg 77 (by omega) (by omega), gg 78 (by omega) (by omega), gg 79 (by omega) (by omega)]; simp) hn
    obtain ⟨-, ⟨p, p1, p2, pe⟩, -⟩ := wkS_ok (o := ob h S L (nI w) g (w + k) (nI w)) hwg' (hk i (by omega)) i
    refine (FM_beside_118 (FM_beside_120 (FM_beside_121 (FM_beside_124 (fun c124 => (FM_beside_166 (FM_beside_169 ?_))) (fun c124 => (FM_beside_127 (FM_beside_129 (FM_beside_130 (FM_beside_132 (FM_beside_133 (FM_beside_135 (FM_beside_136 (FM_beside_139 (FM_beside_141 (FM_beside_142 (FM_beside_143 (FM_beside_146 (FM_beside_147 (FM_beside_150 (FM_beside_151 (Nat.le_of_ble_eq_true rfl) ?_))))))))))))))))))))
    · rw [eD] at c124; exact absurd ((leN rfl rfl (by omega) (by omega)).mp c124) (by omega)
    · rw [eW]
      refine FM_bits_c hs' eS eL hn' rfl (nI_add w k) (by omega) (by omega) ?_
      show E X (d + 5) FM_beside 154 _ (.int (ob h' S L (nI w) g (w + k) (nI w) i) :: _) _ _
      rw [ob_cg gg]
      refine (FM_beside_154 (Nat.le_of_ble_eq_true rfl) ?_)
      rw [← eh]
      refine FM_lives_s (p := p) (wg := wg) rfl (by omega) (by rw [h57, hwg]) pe p1 p2 ?_
      refine (FM_beside_157 (FM_beside_158 (FM_beside_160 (FM_beside_163 ?_))))
      rw [nI_1, Int32.add_assoc]
      exact ih (i + 1) (by omega)
theorem FM_beside_o {n0 : Nat} {a2 a3 : Int32} (hm : m = min n0 (60 - w)) (hw60 : w ≤ 60) (hn0 : n0 ≤ 20) (hs : iSigns h 4 S w) (hn : iLines h 9 L 79) (mS : h.1 57 15 = nI S) (mL : h.1 57 21 = nI L) (hwk : h.1 57 10 = nI w) (mD : h.1 57 1 = nI D) (h6 : D ≤ 6) (hwg : h.1 57 11 = wg) (hwg' : isN wg 0 99) (hrow : ∀ r, r < 41 ∨ (64 < r ∧ r < 92) → H.1 r = h.1 r) (h57 : H.1 57 = h.1 57) (hk : ∀ d, d < D → eOk s d)
    (K : ∀ a7 : Value, E X (d + 5) FM_beside 172 [.ref 57, .int g, .int (nI n0), .int a2, .int a3, .int (dmS (fun k => ob h S L (nI w) g (w + k) (nI w)) wg s D m).2, .int (nI m), a7] [] (sM H (dmS (fun k => ob h S L (nI w) g (w + k) (nI w)) wg s D m).1) Q) :
    ∀ (n i : Nat) (a7 : Value), i + n = m → E X (d + 5) FM_beside 97 [.ref 57, .int g, .int (nI n0), .int a2, .int a3, .int (dmS (fun k => ob h S L (nI w) g (w + k) (nI w)) wg s D i).2, .int (nI i), a7] [] (sM H (dmS (fun k => ob h S L (nI w) g (w + k) (nI w)) wg s D i).1) Q := by
  intro n
  induction n with
  | zero =>
    intro i a7 hi
    obtain rfl : i = m := by omega
    have eW : (sM H (dmS (fun k => ob h S L (nI w) g (w + k) (nI w)) wg s D i).1).1 57 10 = nI w := by rw [sM_57 (by omega), h57, hwk]
    refine (FM_beside_97 (FM_beside_99 (FM_beside_100 (fun c100 => ?_) (fun c100 => (FM_beside_103 (FM_beside_104 (FM_beside_107 (FM_beside_109 (FM_beside_110 (FM_beside_112 (fun c112 => ?_) (fun c112 => ?_)))))))))))
    · exact K _
    · exact K _
    · rw [eW, nI_add] at c112
      have h1 : ¬ n0 ≤ i := fun y => c100 ((leN rfl rfl (by omega) (by omega)).mpr y)
      have h2 : ¬ 60 ≤ w + i := fun y => c112 ((leN (show (60 : Int32) = nI 60 from rfl) rfl (by omega) (by omega)).mpr y)
      omega
  | succ n ih =>
    intro i a7 hi
    have eW : (sM H (dmS (fun k => ob h S L (nI w) g (w + k) (nI w)) wg s D i).1).1 57 10 = nI w := by rw [sM_57 (by omega), h57, hwk]
    refine (FM_beside_97 (FM_beside_99 (FM_beside_100 (fun c100 => ?_) (fun c100 => (FM_beside_103 (FM_beside_104 (FM_beside_107 (FM_beside_109 (FM_beside_110 (FM_beside_112 (fun c112 => ?_) (fun c112 => (FM_beside_115 (FM_beside_116 ?_)))))))))))))
    · exact absurd ((leN rfl rfl (by omega) (by omega)).mp c100) (by omega)
    · rw [eW, nI_add] at c112; exact absurd ((leN (show (60 : Int32) = nI 60 from rfl) rfl (by omega) (by omega)).mp c112) (by omega)
    · have q := FM_beside_i (X := X) (d := d) (Q := Q) (g := g) (a1 := nI n0) (a2 := a2) (a3 := a3) (acc := (dmS (fun k => ob h S L (nI w) g (w + k) (nI w)) wg s D i).2) (k := i) hs hn mS mL hwk (by omega) mD h6 hwg hwg' hrow h57 (fun d hd => dmS_ok hwg' (hk d hd) i) (ih (i + 1) _ (by omega)) D 0 (by omega)
      simp only [wkS, Int32.add_zero] at q
      exact q
def lsu (f : Nat → Int32) : Nat → Int32
  | 0 => 0
  | n + 1 => lsu f n + f n
theorem lsu_sm {f F : Nat → Int32} : ∀ n, (∀ d c, d < n → c < 3 → f (3 * d + c) = F (d * 15 + (12 + c))) → lsu f (3 * n) = smC F 12 n
  | 0, _ => rfl
  | n + 1, e => by
    show lsu f (3 * n) + f (3 * n) + f (3 * n + 1) + f (3 * n + 2) = _
    rw [lsu_sm n (fun d c hd hc => e d c (by omega) hc), smC, ← e n 0 (by omega) (by omega), ← e n 1 (by omega) (by omega), ← e n 2 (by omega) (by omega)]
    rfl
theorem FM_allDead_l (mD : h.1 57 1 = nI D) (h6 : D ≤ 6) (K : Q (lsu (h.1 64) (3 * D)) h) : ∀ (n i : Nat), i + n = 3 * D → E X d FM_allDead 4 [.ref 57, .int (lsu (h.1 64) i), .int (nI i)] [] h Q := by
  have e3 : (3 : Int32) * h.1 57 1 = nI (3 * D) := by rw [mD]; exact nI_mulE (show (3 : Int32) = nI 3 from rfl) rfl
  intro n
  induction n with
  | zero =>
    intro i hi
    obtain rfl : i = 3 * D := by omega
    refine (FM_allDead_4 (FM_allDead_5 (FM_allDead_6 (FM_allDead_7 (FM_allDead_10 (FM_allDead_11 (fun c11 => (FM_allDead_29 (FM_allDead_30 ?_))) (fun c11 => ?_)))))))
    · exact K
    · rw [e3] at c11; exact absurd (Int32.le_refl _) c11
  | succ n ih =>
    intro i hi
    refine (FM_allDead_4 (FM_allDead_5 (FM_allDead_6 (FM_allDead_7 (FM_allDead_10 (FM_allDead_11 (fun c11 => (FM_allDead_29 (FM_allDead_30 ?_))) (fun c11 => (FM_allDead_14 (FM_allDead_15 (FM_allDead_16 (FM_allDead_19 (FM_allDead_20n (by first | assumption | exact rfl) (by omega) (FM_allDead_21 (FM_allDead_22 (FM_allDead_23 (FM_allDead_26 ?_))))))))))))))))
    · rw [e3] at c11; exact absurd ((leN rfl rfl (by omega) (by omega)).mp c11) (by omega)
    · rw [nI_1]
      exact ih (i + 1) (by omega)
theorem FM_allDead_s (mD : (sM h s).1 57 1 = nI D) (h6 : D ≤ 6) (K : Q (smC s.1 12 D) (sM h s)) : E X d FM_allDead 0 [.ref 57, U0, U0] [] (sM h s) Q := by
  refine (FM_allDead_0 (FM_allDead_1 (FM_allDead_2 (FM_allDead_3 ?_))))
  refine FM_allDead_l mD h6 ?_ (3 * D) 0 (by omega)
  rw [lsu_sm (F := s.1) D (fun d c hd hc => sM_g (ix64 (by omega) hc))]
  exact K
theorem bt_without {F g : Int32} {i j : Nat} (hj : j < 32) (hi : i < 32) (hg : g = nI j) : bt (F &&& (((1 : Int32) <<< (g &&& 31)) ^^^ (-1))) i = (bt F i && !decide (i = j)) := by
  rw [hg, b_and, b_xor, bt_one hj hi, b_m1 i hi]
  simp
theorem St_dream_c (hs : iSigns h 4 S w) (hn : iLines h 9 L 79) (hwm : w + m ≤ 60) (hD : h.1 2 1 = nI D) (h6 : D ≤ 6) (hwg : h.1 2 2 = wg) (hwg' : isN wg 0 99) (hwk : h.1 1 6 = nI w) (hg : g = -1 ∨ isLt g L) (ey : y = nI m) (hk : ∀ d, d < D → eOk (h.1 3, 0, 0, 0) d)
    (K : ∀ H, (∀ r, r < 41 ∨ 42 < r → H.1 r = h.1 r) → cpLaC h H 41 2 → Q 0 (sC H 41 (dmS (fun k => ob h S L (nI w) g (w + k) (nI w)) wg (H.1 42, H.1 41 3, H.1 41 4, H.1 41 5) D m).1)) : E X (d + 5) St_dream 0 [.ref 1, .ref 41, .int g, .int y, U0, U0, U0] [] h Q := by
  subst ey
  have hL12 := hn.1
  refine (St_dream_0 (St_dream_1 (St_dream_2 (St_dream_5 (Nat.le_of_ble_eq_true rfl) ?_))))
  refine La_copy_41 (fun H fr cp => ?_)
  have K := K H fr cp
  obtain ⟨c1, c2, c3, c4, c5, c6⟩ := cp
  have gg : sg h H := fun r r1 r2 => fr r (by omega)
  have hs' : iSigns H 4 S w := iSigns_cg (by simp only [fr 4 (by omega), fr (4 + 1) (by omega), fr (4 + 2) (by omega), fr (4 + 3) (by omega), fr (4 + 4) (by omega)]; simp) (fun k _ => by simp only [gg 66 (by omega) (by omega), gg 67 (by omega) (by omega), gg 68 (by omega) (by omega), gg 69 (by omega) (by omega), gg 70 (by omega) (by omega)]; simp) hs
  have hn' : iLines H 9 L 79 := iLines_cg (by simp only [fr 9 (by omega), fr (9 + 1) (by omega)]; simp) (fun k _ => by simp only [gg 71 (by omega) (by omega), gg 72 (by omega) (by omega), gg 73 (by omega) (by omega), gg 74 (by omega) (by omega), gg 75 (by omega) (by omega), gg 76 (by omega) (by omega), gg 77 (by omega) (by omega), gg 78 (by omega) (by omega), gg 79 (by omega) (by omega)]; simp) hn
  have eW : H.1 1 6 = nI w := by rw [fr 1 (by omega), hwk]
  have nx : ∀ F, (∀ i, i < L → bt F i = ((!decide (nI i = g)) && iF h (nI w) i)) → E X (d + 5) St_dream 36 [.ref 1, .ref 41, .int g, .int (nI m), .int F, U0, U0] [] H Q := fun F hF => by
    refine (St_dream_36 (St_dream_37 (St_dream_40 ?_)))
    rw [eW]
    have q := St_dream_o (X := X) (d := d) (Q := Q) (x := g) (F := F) (h := h) (H := H) (s := (H.1 42, H.1 41 3, H.1 41 4, H.1 41 5)) hs hn hwm h6 hwg' hF hwk fr (c2.trans hD) (c3.trans hwg) (fun d hd => by
      obtain ⟨a1, a2, a3⟩ := hk d hd
      have cc : ∀ y, y < 90 → H.1 42 y = h.1 3 y := c1
      refine ⟨?_, ?_, fun c hc => ⟨?_, ?_⟩⟩
      · show isN (H.1 42 _) _ _
        rw [cc _ (by omega)]; exact a1
      · show isN (H.1 42 _) _ _
        rw [cc _ (by omega)]; exact a2
      · show isN (H.1 42 _) _ _
        rw [cc _ (by omega)]; exact (a3 c hc).1
      · show isN (H.1 42 _) _ _
        rw [cc _ (by omega)]; exact (a3 c hc).2) K m 0 U0 (by omega)
    simp only [dmS] at q
    rw [show ((H.1 42, H.1 41 3, H.1 41 4, H.1 41 5) : EC) = (H.1 (41 + 1), H.1 41 3, H.1 41 4, H.1 41 5) from rfl, sC_self] at q
    exact q
  refine (St_dream_8 (St_dream_9 (St_dream_12 (St_dream_13 (St_dream_16 (Nat.le_of_ble_eq_true rfl) ?_)))))
  rw [eW]
  refine Co_inForce_c hn' ?_
  rw [iF_cg gg]
  refine (St_dream_19 (St_dream_21 (St_dream_22 (St_dream_23 (fun c23 => ?_) (fun c23 => (St_dream_26 (St_dream_28 (St_dream_29 (St_dream_30 (St_dream_31 (St_dream_32 (St_dream_33 (St_dream_34 ?_)))))))))))))
  · refine nx _ (fun i hi => ?_)
    rw [bt_bset L (by omega) (by omega), decide_eq_true hi, c23, decide_eq_false (nI_m1 (by omega))]; rfl
  · obtain ⟨j, j1, j2⟩ := hg.resolve_left c23
    refine nx _ (fun i hi => ?_)
    rw [bt_without (show j < 32 by omega) (by omega) j2, bt_bset L (by omega) (by omega), decide_eq_true hi, j2, Bool.true_and, Bool.and_comm]
    congr 2
    by_cases z : i = j
    · rw [decide_eq_true z, decide_eq_true (by rw [z])]
    · rw [decide_eq_false z, decide_eq_false (fun q => z (nI_inj q (by omega) (by omega)))]
end BM
