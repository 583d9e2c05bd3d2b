theorem obm (h : HH) (S L dd c : Nat) (z u : Int32) (hL : L ≤ 12) : kb (h.1 71) (bt (bset (iF h u) L &&& bset (hP (tB h S dd c z) (h.1 77)) L)) L = ob h S L u (-1) c z dd := by
  refine kb_cg L (fun i hi => ⟨?_, rfl⟩)
  rw [bt_force hL hi, oP, decide_eq_false (nI_m1 (by omega))]; rfl
section WL
variable {X : SX} {d S w L D : Nat} {h : HH} {Q : Int32 → HH → Prop} {wg : Int32} {s : EC}
theorem St_passWeek_l (hs : iSigns h 4 S w) (hn : iLines h 9 L 79) (hwk : h.1 1 6 = nI w) (hw60 : w < 60) (hD : h.1 2 1 = nI D) (h6 : D ≤ 6) (hwg : h.1 2 2 = wg) (hk : ∀ d, d < D → eOk s d) (hwg' : isN wg 0 99) 
    (k : ∀ a4 : Value, E X (d + 5) St_passWeek 93 [.ref 1, .int (bset (iF h (nI w)) L), .int (wkS (ob h S L (nI w) (-1) w (nI w)) wg s D).2, .int (nI D), a4] [] (sC (wkO h 20 w (ob h S L (nI w) (-1) w (nI w)) D) 2 (wkS (ob h S L (nI w) (-1) w (nI w)) wg s D).1) Q) :
    ∀ (n i : Nat) (a4 : Value), i + n = D → E X (d + 5) St_passWeek 16 [.ref 1, .int (bset (iF h (nI w)) L), .int (wkS (ob h S L (nI w) (-1) w (nI w)) wg s i).2, .int (nI i), a4] [] (sC (wkO h 20 w (ob h S L (nI w) (-1) w (nI w)) i) 2 (wkS (ob h S L (nI w) (-1) w (nI w)) wg s i).1) Q := by
  intro n
  induction n with
  | zero =>
    intro i a4 hi
    obtain rfl : i = D := by omega
    have eD : (sC (wkO h 20 w (ob h S L (nI w) (-1) w (nI w)) i) 2 (wkS (ob h S L (nI w) (-1) w (nI w)) wg s i).1).1 2 1 = nI i := by rw [sC_low (by omega), wkO_r (by omega), hD]
    refine (St_passWeek_16 (St_passWeek_17 (St_passWeek_18 (St_passWeek_21 (St_passWeek_24 (fun c24 => ?_) (fun c24 => ?_))))))
    · exact k _
    · rw [eD] at c24; exact absurd (Int32.le_refl _) c24
  | succ n ih =>
    intro i a4 hi
    have hL12 := hn.1
    have hrow : ∀ r, r ≠ 2 → r ≠ 3 → r ≠ 20 → (sC (wkO h 20 w (ob h S L (nI w) (-1) w (nI w)) i) 2 (wkS (ob h S L (nI w) (-1) w (nI w)) wg s i).1).1 r = h.1 r := fun r h1 h2 h3 => by rw [sC_row h1 h2, wkO_r h3]
    have eD : (sC (wkO h 20 w (ob h S L (nI w) (-1) w (nI w)) i) 2 (wkS (ob h S L (nI w) (-1) w (nI w)) wg s i).1).1 2 1 = nI D := by rw [sC_low (by omega), wkO_r (by omega), hD]
    have eW : (sC (wkO h 20 w (ob h S L (nI w) (-1) w (nI w)) i) 2 (wkS (ob h S L (nI w) (-1) w (nI w)) wg s i).1).1 1 6 = nI w := by rw [hrow 1 (by omega) (by omega) (by omega), hwk]
    have g : sg h (sC (wkO h 20 w (ob h S L (nI w) (-1) w (nI w)) i) 2 (wkS (ob h S L (nI w) (-1) w (nI w)) wg s i).1) := fun r r1 r2 => hrow r (by omega) (by omega) (by omega)
    generalize eh : sC (wkO h 20 w (ob h S L (nI w) (-1) w (nI w)) i) 2 (wkS (ob h S L (nI w) (-1) w (nI w)) wg s i).1 = h' at *
    have hs' : iSigns h' 4 S w := iSigns_cg (by simp only [hrow 4 (by omega) (by omega) (by omega), hrow (4 + 1) (by omega) (by omega) (by omega), hrow (4 + 2) (by omega) (by omega) (by omega), hrow (4 + 3) (by omega) (by omega) (by omega), hrow (4 + 4) (by omega) (by omega) (by omega)]; simp) (fun k _ => by simp only [g 66 (by omega) (by omega), g 67 (by omega) (by omega), g 68 (by omega) (by omega), g 69 (by omega) (by omega), g 70 (by omega) (by omega)]; simp) hs
    have hn' : iLines h' 9 L 79 := iLines_cg (by simp only [hrow 9 (by omega) (by omega) (by omega), hrow (9 + 1) (by omega) (by omega) (by omega)]; simp) (fun k _ => by simp only [g 71 (by omega) (by omega), g 72 (by omega) (by omega), g 73 (by omega) (by omega), g 74 (by omega) (by omega), g 75 (by omega) (by omega), g 76 (by omega) (by omega), g 77 (by omega) (by omega), g 78 (by omega) (by omega), g 79 (by omega) (by omega)]; simp) hn
    obtain ⟨-, ⟨p, p1, p2, pe⟩, -⟩ := wkS_ok (o := ob h S L (nI w) (-1) w (nI w)) hwg' (hk i (by omega)) i
    refine (St_passWeek_16 (St_passWeek_17 (St_passWeek_18 (St_passWeek_21 (St_passWeek_24 (fun c24 => ?_) (fun c24 => (St_passWeek_27 (St_passWeek_28 (St_passWeek_31 (St_passWeek_32 (St_passWeek_33 (St_passWeek_36 (St_passWeek_37 (St_passWeek_40 (St_passWeek_41 (St_passWeek_42 (St_passWeek_45 (St_passWeek_46 (St_passWeek_49 (Nat.le_of_ble_eq_true rfl) ?_)))))))))))))))))))
    · rw [eD] at c24; exact absurd ((leN rfl rfl (by omega) (by omega)).mp c24) (by omega)
    · rw [eW]
      refine Co_holding_c hs' hn' rfl rfl (by omega) (by omega) ?_
      refine (St_passWeek_52 (St_passWeek_53 (Nat.le_of_ble_eq_true rfl) ?_))
      refine Co_kindsOf_c hn' ?_
      rw [← iF_cg g, obm h' S L i w (nI w) (nI w) hL12, ob_cg g]
      refine (St_passWeek_56 (St_passWeek_58 (St_passWeek_59 (St_passWeek_62 (St_passWeek_63 (St_passWeek_65 (St_passWeek_66 (St_passWeek_67 (St_passWeek_70 (St_passWeek_71 ?_))))))))))
      rw [eW]
      have ix : nI i * 60 + nI w = nI (i * 60 + w) := nI_addE (nI_mulE rfl (show (60 : Int32) = nI 60 from rfl)) rfl
      refine St_passWeek_73n (k := i * 60 + w) ix (by omega) ?_
      refine (St_passWeek_74 (St_passWeek_75 (St_passWeek_76 (St_passWeek_79 (St_passWeek_80 ?_)))))
      rw [← eh, sC_po (by omega) (by omega)]
      refine St_passWeek_82 (Nat.le_of_ble_eq_true rfl) ?_
      refine La_pass_s (p := p) (wg := wg) isLa2 rfl (by omega) ?_ pe p1 p2 ?_
      · rw [pI_r (by omega), wkO_r (by omega), hwg]
      · refine (St_passWeek_85 (St_passWeek_86 (St_passWeek_87 (St_passWeek_90 ?_))))
        have gi := iF_cg g (nI w)
        rw [← eh] at gi
        rw [nI_1, gi]
        exact ih (i + 1) _ (by omega)
theorem St_passWeek_s (hs : iSigns h 4 S w) (hn : iLines h 9 L 79) (hwk : h.1 1 6 = nI w) (hw60 : w < 60) (hD : h.1 2 1 = nI D) (h6 : D ≤ 6) (hwg : h.1 2 2 = wg) (hS : (h.1 3, h.1 2 3, h.1 2 4, h.1 2 5) = s) (hk : ∀ d, d < D → eOk s d) (hwg' : isN wg 0 99)
    (k : Q (wkS (ob h S L (nI w) (-1) w (nI w)) wg s D).2 (pI (sC (wkO h 20 w (ob h S L (nI w) (-1) w (nI w)) D) 2 (wkS (ob h S L (nI w) (-1) w (nI w)) wg s D).1) 1 6 (nI (w + 1)))) : E X (d + 5) St_passWeek 0 [.ref 1, U0, U0, U0, U0] [] h Q := by
  refine (St_passWeek_0 (St_passWeek_1 (St_passWeek_4 (St_passWeek_5 (St_passWeek_8 (Nat.le_of_ble_eq_true rfl) ?_)))))
  rw [hwk]
  refine Co_inForce_c hn ?_
  refine (St_passWeek_11 (St_passWeek_12 (St_passWeek_13 (St_passWeek_14 (St_passWeek_15 ?_)))))
  have q := St_passWeek_l (X := X) (d := d) (Q := Q) (wg := wg) (s := s) hs hn hwk hw60 hD h6 hwg hk hwg' (fun a4 => by
    refine (St_passWeek_93 (St_passWeek_94 (St_passWeek_95 (St_passWeek_98 (St_passWeek_99 (St_passWeek_100 (St_passWeek_103 (St_passWeek_104 ?_))))))))
    rw [sC_row (by omega) (by omega), wkO_r (by omega), hwk, nI_1]
    exact k) D 0 U0 (by omega)
  simp only [wkS, wkO] at q
  rw [← hS, sC_self] at q
  exact q
theorem FM_week_l (hs : iSigns h 4 S w) (hn : iLines h 9 L 79) (mS : h.1 57 15 = nI S) (mL : h.1 57 21 = nI L) (hwk : h.1 57 10 = nI w) (hw60 : w < 60) (hD : h.1 57 1 = nI D) (h6 : D ≤ 6) (hwg : h.1 57 11 = wg) (hk : ∀ d, d < D → eOk s d) (hwg' : isN wg 0 99)
    (k : ∀ a4 : Value, E X (d + 5) FM_week 76 [.ref 57, .int (wkS (ob h S L (nI w) (-1) w (nI w)) wg s D).2, .int (nI D), a4] [] (sM (wkO h 65 w (ob h S L (nI w) (-1) w (nI w)) D) (wkS (ob h S L (nI w) (-1) w (nI w)) wg s D).1) Q) :
    ∀ (n i : Nat) (a4 : Value), i + n = D → E X (d + 5) FM_week 19 [.ref 57, .int (wkS (ob h S L (nI w) (-1) w (nI w)) wg s i).2, .int (nI i), a4] [] (sM (wkO h 65 w (ob h S L (nI w) (-1) w (nI w)) i) (wkS (ob h S L (nI w) (-1) w (nI w)) wg s i).1) Q := by
  intro n
  induction n with
  | zero =>
    intro i a4 hi
    obtain rfl : i = D := by omega
    have eD : (sM (wkO h 65 w (ob h S L (nI w) (-1) w (nI w)) i) (wkS (ob h S L (nI w) (-1) w (nI w)) wg s i).1).1 57 1 = nI i := by rw [sM_57 (by omega), wkO_r (by omega), hD]
    refine (FM_week_19 (FM_week_20 (FM_week_21 (FM_week_24 (fun c24 => ?_) (fun c24 => ?_)))))
    · exact k _
    · rw [eD] at c24; exact absurd (Int32.le_refl _) c24
  | succ n ih =>
    intro i a4 hi
    have hL12 := hn.1
    have hrow : ∀ r, r < 57 ∨ 65 < r → (sM (wkO h 65 w (ob h S L (nI w) (-1) w (nI w)) i) (wkS (ob h S L (nI w) (-1) w (nI w)) wg s i).1).1 r = h.1 r := fun r h1 => by rw [sM_row (by omega), wkO_r (by omega)]
    have hcel : ∀ j, j < 12 ∨ 14 < j → (sM (wkO h 65 w (ob h S L (nI w) (-1) w (nI w)) i) (wkS (ob h S L (nI w) (-1) w (nI w)) wg s i).1).1 57 j = h.1 57 j := fun j hj => by rw [sM_57 hj, wkO_r (by omega)]
    have eD := (hcel 1 (by omega)).trans hD
    have eW := (hcel 10 (by omega)).trans hwk
    have eS := (hcel 15 (by omega)).trans mS
    have eL := (hcel 21 (by omega)).trans mL
    have g : sg h (sM (wkO h 65 w (ob h S L (nI w) (-1) w (nI w)) i) (wkS (ob h S L (nI w) (-1) w (nI w)) wg s i).1) := fun r r1 r2 => hrow r (by omega)
    generalize eh : sM (wkO h 65 w (ob h S L (nI w) (-1) w (nI w)) i) (wkS (ob h S L (nI w) (-1) w (nI w)) wg s i).1 = h' at *
    have hs' : iSigns h' 4 S w := iSigns_cg (by simp only [hrow 4 (by omega), hrow (4 + 1) (by omega), hrow (4 + 2) (by omega), hrow (4 + 3) (by omega), hrow (4 + 4) (by omega)]; simp) (fun k _ => by simp only [g 66 (by omega) (by omega), g 67 (by omega) (by omega), g 68 (by omega) (by omega), g 69 (by omega) (by omega), g 70 (by omega) (by omega)]; simp) hs
    have hn' : iLines h' 9 L 79 := iLines_cg (by simp only [hrow 9 (by omega), hrow (9 + 1) (by omega)]; simp) (fun k _ => by simp only [g 71 (by omega) (by omega), g 72 (by omega) (by omega), g 73 (by omega) (by omega), g 74 (by omega) (by omega), g 75 (by omega) (by omega), g 76 (by omega) (by omega), g 77 (by omega) (by omega), g 78 (by omega) (by omega), g 79 (by omega) (by omega)]; simp) hn
    obtain ⟨-, ⟨p, p1, p2, pe⟩, -⟩ := wkS_ok (o := ob h S L (nI w) (-1) w (nI w)) hwg' (hk i (by omega)) i
    refine (FM_week_19 (FM_week_20 (FM_week_21 (FM_week_24 (fun c24 => ?_) (fun c24 => (FM_week_27 (FM_week_28 (FM_week_29 (FM_week_30 (FM_week_33 (FM_week_34 (FM_week_37 (FM_week_38 (FM_week_41 (FM_week_42 (Nat.le_of_ble_eq_true rfl) ?_)))))))))))))))
    · rw [eD] at c24; exact absurd ((leN rfl rfl (by omega) (by omega)).mp c24) (by omega)
    · rw [eW]
      refine FM_bits_c hs' eS eL hn' rfl rfl (by omega) (by omega) ?_
      show E X (d + 5) FM_week 45 _ (.int (ob h' S L (nI w) (-1) w (nI w) i) :: _) _ _
      rw [ob_cg g]
      refine (FM_week_45 (FM_week_46 (FM_week_47 (FM_week_50 (FM_week_52 (FM_week_53 (FM_week_54 (FM_week_55 (FM_week_58 (FM_week_59 ?_))))))))))
      rw [eW]
      have ix : (60 : Int32) * nI i + nI w = nI (i * 60 + w) := by rw [Nat.mul_comm]; exact nI_addE (nI_mulE (show (60 : Int32) = nI 60 from rfl) rfl) rfl
      refine FM_week_60n (k := i * 60 + w) ix (by omega) ?_
      refine (FM_week_61 (FM_week_62 (FM_week_63 (FM_week_64 ?_))))
      rw [← eh, sM_po (by omega)]
      refine FM_week_65 (Nat.le_of_ble_eq_true rfl) ?_
      refine FM_lives_s (p := p) (wg := wg) rfl (by omega) ?_ pe p1 p2 ?_
      · rw [pI_r (by omega), wkO_r (by omega), hwg]
      · refine (FM_week_68 (FM_week_69 (FM_week_70 (FM_week_73 ?_))))
        rw [nI_1]
        exact ih (i + 1) _ (by omega)
end WL
