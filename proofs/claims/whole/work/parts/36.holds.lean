/-- whether line l holds, by what it hangs on -/
def hB (T : Nat → Bool) (on : Nat → Int32) : Nat → Nat → Bool
  | 0, _ => false
  | f + 1, l => T l && (decide (on l = -1) || hB T on f (on l).toNatClampNeg)
def hP (T : Nat → Bool) (on : Nat → Int32) (l : Nat) : Bool := hB T on (l + 1) l
theorem hB_f {T : Nat → Bool} {on : Nat → Int32} {L : Nat} (ho : ∀ l, l < L → on l = -1 ∨ isLt (on l) l) (hL : L ≤ 12) : ∀ (l f : Nat), l < f → l < L → hB T on f l = hP T on l := by
  intro l
  induction l using Nat.strongRecOn with
  | _ l ih =>
  intro f hf hl
  match f, hf with
  | f + 1, hf =>
    unfold hP
    simp only [hB]
    rcases ho l hl with e | ⟨o, o1, o2⟩
    · rw [decide_eq_true e, Bool.true_or, Bool.true_or]
    · rw [o2, nI_clamp (by omega), ih o o1 f (by omega) (by omega), ih o o1 l o1 (by omega)]
theorem hP_e {T : Nat → Bool} {on : Nat → Int32} {L l : Nat} (ho : ∀ l, l < L → on l = -1 ∨ isLt (on l) l) (hL : L ≤ 12) (hl : l < L) : hP T on l = (T l && (decide (on l = -1) || hP T on (on l).toNatClampNeg)) := by
  unfold hP
  rw [hB]
  rcases ho l hl with e | ⟨o, o1, o2⟩
  · rw [decide_eq_true e, Bool.true_or, Bool.true_or]
  · rw [o2, nI_clamp (by omega), hB_f ho hL o l o1 (by omega)]; rfl
/-- whether a line is in force at z -/
def iF (h : HH) (z : Int32) (l : Nat) : Bool := decide (h.1 78 l ≤ z) && (decide (h.1 79 l = -1) || decide (z < h.1 79 l))
def kb (kd : Nat → Int32) (P : Nat → Bool) : Nat → Int32
  | 0 => 0
  | n + 1 => kb kd P n ||| (if P n then (1 : Int32) <<< (kd n &&& 31) else 0)
theorem kb_cg {kd kd' : Nat → Int32} {P P' : Nat → Bool} : ∀ (n : Nat), (∀ i, i < n → P i = P' i ∧ kd i = kd' i) → kb kd P n = kb kd' P' n
  | 0, _ => rfl
  | n + 1, e => by unfold kb; rw [(e n (by omega)).1, (e n (by omega)).2, kb_cg n (fun i hi => e i (by omega))]
def wy (kd : Nat → Int32) (k : Int32) (P : Nat → Bool) : Nat → Nat → Int32
  | 0, _ => -1
  | n + 1, i => if P i = true ∧ kd i = k then nI i else wy kd k P n (i + 1)
section HO
variable {X : SX} {d S w L l dd c : Nat} {h : HH} {Q : Int32 → HH → Prop} {z u x : Int32}
theorem Co_holding_l (hs : iSigns h 4 S w) (hn : iLines h 9 L 79) (h1 : dd < 6) (h4 : c ≤ 60) (k : Q (bset (hP (tB h S dd c z) (h.1 77)) L) h) : ∀ (n i : Nat) (a7 a8 : Value), i + n = L → E X (d + 3) Co_holding 6 [.ref 9, .ref 4, .int (nI dd), .int (nI c), .int z, .int (bset (hP (tB h S dd c z) (h.1 77)) i), .int (nI i), a7, a8] [] h Q := by
  have ho : ∀ l, l < L → h.1 77 l = -1 ∨ isLt (h.1 77 l) l := fun l hl => (hn.2.2 l hl).1.2.2.2.2.2.1
  have hL := hn.1
  intro n
  induction n with
  | zero =>
    intro i a7 a8 hi
    obtain rfl : i = L := by omega
    refine (Co_holding_6 (Co_holding_8 (Co_holding_9 (Co_holding_12 (fun c12 => (Co_holding_83 (Co_holding_85 ?_))) (fun c12 => ?_)))))
    · exact k
    · rw [hn.2.1] at c12; exact absurd (Int32.le_refl _) c12
  | succ n ih =>
    intro i a7 a8 hi
    have b6 : h.1 10 (i * 9 + 6) = h.1 77 i := (hn.2.2 i (by omega)).2.2.2.2.2.2.2.1
    have pe := hP_e (T := tB h S dd c z) ho hL (show i < L by omega)
    have nx : ∀ (v : Int32) (a7 a8 : Value), (v = if hP (tB h S dd c z) (h.1 77) i then bset (hP (tB h S dd c z) (h.1 77)) i ||| ((1 : Int32) <<< (nI i &&& 31)) else bset (hP (tB h S dd c z) (h.1 77)) i) → E X (d + 3) Co_holding 6 [.ref 9, .ref 4, .int (nI dd), .int (nI c), .int z, .int v, .int (nI i + 1), a7, a8] [] h Q := by
      intro v a7 a8 hv
      have := ih (i + 1) a7 a8 (by omega)
      rw [bset, ← hv] at this
      rw [nI_1]
      exact this
    refine (Co_holding_6 (Co_holding_8 (Co_holding_9 (Co_holding_12 (fun c12 => (Co_holding_83 (Co_holding_85 ?_))) (fun c12 => (Co_holding_15 (Co_holding_16 (Co_holding_18 (Co_holding_20 (Nat.le_of_ble_eq_true rfl) (Co_get_c (by first | assumption | exact rfl) (show (6 : Int32) = nI 6 from rfl) (by omega) (by omega) (Co_holding_23 (Co_holding_25 (Co_holding_27 (Co_holding_28 (fun c28 => (Co_holding_42 (Co_holding_43 (Co_holding_47 (Co_holding_49 (Co_holding_51 (fun z => absurd z (by decide)) (fun _ => (Co_holding_54 (Co_holding_55 (Co_holding_57 (Co_holding_58 (Co_holding_59 (Co_holding_60 (Co_holding_62 (Nat.le_of_ble_eq_true rfl) ?_)))))))))))))) (fun c28 => (Co_holding_31 (Co_holding_33 (Co_holding_35 (Co_holding_36 (Co_holding_37 (Co_holding_38 (Co_holding_39 (fun c39 => (Co_holding_46 (Co_holding_47 (Co_holding_49 (Co_holding_51 (fun _ => (Co_holding_77 (Co_holding_80 ?_))) (fun z => absurd z (by decide))))))) (fun c39 => (Co_holding_42 (Co_holding_43 (Co_holding_47 (Co_holding_49 (Co_holding_51 (fun z => absurd z (by decide)) (fun _ => (Co_holding_54 (Co_holding_55 (Co_holding_57 (Co_holding_58 (Co_holding_59 (Co_holding_60 (Co_holding_62 (Nat.le_of_ble_eq_true rfl) ?_))))))))))))))))))))))))))))))))))))
    · rw [hn.2.1] at c12; exact absurd ((leN rfl rfl (by omega) (by omega)).mp c12) (by omega)
    · rw [b6] at c28
      refine Co_passes_c hs hn rfl rfl rfl (by omega) h1 h4 (fun y => ?_) (fun y => ?_)
      · refine (Co_holding_65 (fun z => absurd z (by decide)) (fun _ => (Co_holding_68 (Co_holding_70 (Co_holding_71 (Co_holding_73 (Co_holding_74 (Co_holding_75 (Co_holding_77 (Co_holding_80 ?_))))))))))
        refine nx _ _ _ ?_
        rw [pe, y, decide_eq_true c28]; rfl
      · refine (Co_holding_65 (fun _ => (Co_holding_77 (Co_holding_80 ?_))) (fun z => absurd z (by decide)))
        refine nx _ _ _ ?_
        rw [pe, y]; rfl
    · rw [b6] at c28 c39
      obtain ⟨o, o1, o2⟩ := (ho i (by omega)).resolve_left c28
      rw [o2, bt_get1 _ (by omega), bt_bset i (by omega) (by omega)] at c39
      refine nx _ _ _ ?_
      rw [pe, decide_eq_false c28, o2, nI_clamp (by omega)]
      simp [o1] at c39
      simp [c39]
    · rw [b6] at c28 c39
      obtain ⟨o, o1, o2⟩ := (ho i (by omega)).resolve_left c28
      rw [o2, bt_get1 _ (by omega), bt_bset i (by omega) (by omega)] at c39
      simp [o1] at c39
      refine Co_passes_c hs hn rfl rfl rfl (by omega) h1 h4 (fun y => ?_) (fun y => ?_)
      · refine (Co_holding_65 (fun z => absurd z (by decide)) (fun _ => (Co_holding_68 (Co_holding_70 (Co_holding_71 (Co_holding_73 (Co_holding_74 (Co_holding_75 (Co_holding_77 (Co_holding_80 ?_))))))))))
        refine nx _ _ _ ?_
        rw [pe, y, decide_eq_false c28, o2, nI_clamp (by omega), c39]; rfl
      · refine (Co_holding_65 (fun _ => (Co_holding_77 (Co_holding_80 ?_))) (fun z => absurd z (by decide)))
        refine nx _ _ _ ?_
        rw [pe, y]; rfl
theorem Co_holding_c {y u : Int32} (hs : iSigns h 4 S w) (hn : iLines h 9 L 79) (ey : y = nI dd) (eu : u = nI c) (h1 : dd < 6) (h4 : c ≤ 60) (k : Q (bset (hP (tB h S dd c z) (h.1 77)) L) h) : E X (d + 3) Co_holding 0 [.ref 9, .ref 4, .int y, .int u, .int z, U0, U0, U0, U0] [] h Q := by
  subst ey; subst eu
  refine (Co_holding_0 (Co_holding_1 (Co_holding_3 (Co_holding_4 ?_))))
  exact Co_holding_l hs hn h1 h4 k L 0 _ _ (by omega)
theorem FM_holdsAt_l (hs : iSigns h 4 S w) (hS : h.1 57 15 = nI S) (hn : iLines h 9 L 79) (h1 : dd < 6) (h4 : c ≤ 60) {a1 : Value} : ∀ (k : Nat), k < L → (hP (tB h S dd c z) (h.1 77) k = true → Q 1 h) → (hP (tB h S dd c z) (h.1 77) k = false → Q 0 h) → E X (d + 3) FM_holdsAt 3 [.ref 57, a1, .int (nI dd), .int (nI c), .int z, .int (nI k)] [] h Q := by
  have ho : ∀ l, l < L → h.1 77 l = -1 ∨ isLt (h.1 77 l) l := fun l hl => (hn.2.2 l hl).1.2.2.2.2.2.1
  have hL := hn.1
  intro k
  induction k using Nat.strongRecOn with
  | _ k ih =>
  intro hk t f
  rw [hP_e ho hL hk] at t f
  refine (FM_holdsAt_3 (FM_holdsAt_5 (FM_holdsAt_6 (fun c6 => (FM_holdsAt_36 (FM_holdsAt_37 rfl ?_))) (fun c6 => (FM_holdsAt_9 (FM_holdsAt_10 (FM_holdsAt_12 (FM_holdsAt_13 (FM_holdsAt_14 (FM_holdsAt_16 (Nat.le_of_ble_eq_true rfl) ?_))))))))))
  · exfalso
    have := congrArg Int32.toInt c6
    rw [nI_toInt (by omega)] at this
    have e : (-1 : Int32).toInt = -1 := by decide
    omega
  · refine FM_tests_c hs hS hn rfl rfl rfl hk h1 h4 (fun y => ?_) (fun y => ?_)
    · refine (FM_holdsAt_19 (fun _ => (FM_holdsAt_24 (FM_holdsAt_25 (FM_holdsAt_28 (FM_holdsAt_30n (by first | assumption | exact rfl) (by omega) (FM_holdsAt_31 (FM_holdsAt_33 ?_))))))) (fun z => absurd z (by decide)))
      rw [y, Bool.true_and] at t f
      rcases ho k hk with e | ⟨o, o1, o2⟩
      · rw [e]
        refine (FM_holdsAt_3 (FM_holdsAt_5 (FM_holdsAt_6 (fun c6 => (FM_holdsAt_36 (FM_holdsAt_37 rfl ?_))) (fun c6 => (FM_holdsAt_9 (FM_holdsAt_10 (FM_holdsAt_12 (FM_holdsAt_13 (FM_holdsAt_14 (FM_holdsAt_16 (Nat.le_of_ble_eq_true rfl) ?_))))))))))
        · exact t (by rw [e]; rfl)
        · exact absurd rfl c6
      · rw [o2]
        have ne : ¬ h.1 77 k = -1 := by
          rw [o2]
          intro q
          have := congrArg Int32.toInt q
          rw [nI_toInt (by omega)] at this
          have e : (-1 : Int32).toInt = -1 := by decide
          omega
        rw [decide_eq_false ne, Bool.false_or, o2, nI_clamp (by omega)] at t f
        exact ih o o1 (by omega) t f
    · refine (FM_holdsAt_19 (fun z => absurd z (by decide)) (fun _ => (FM_holdsAt_22 (FM_holdsAt_23 rfl ?_))))
      exact f (by rw [y]; rfl)
theorem FM_holdsAt_c {x y u : Int32} (hs : iSigns h 4 S w) (hS : h.1 57 15 = nI S) (hn : iLines h 9 L 79) (ex : x = nI l) (ey : y = nI dd) (eu : u = nI c) (hl : l < L) (h1 : dd < 6) (h4 : c ≤ 60) (t : hP (tB h S dd c z) (h.1 77) l = true → Q 1 h) (f : hP (tB h S dd c z) (h.1 77) l = false → Q 0 h) : E X (d + 3) FM_holdsAt 0 [.ref 57, .int x, .int y, .int u, .int z, U0] [] h Q := by
  subst ex; subst ey; subst eu
  refine (FM_holdsAt_0 (FM_holdsAt_1 ?_))
  exact FM_holdsAt_l hs hS hn h1 h4 l hl t f
theorem Co_inForce_l (hn : iLines h 9 L 79) (k : Q (bset (iF h z) L) h) : ∀ (n i : Nat) (a4 : Value), i + n = L → E X (d + 1) Co_inForce 4 [.ref 9, .int z, .int (bset (iF h z) i), .int (nI i), a4] [] h Q := by
  have hL := hn.1
  intro n
  induction n with
  | zero =>
    intro i a4 hi
    obtain rfl : i = L := by omega
    refine (Co_inForce_4 (Co_inForce_5 (Co_inForce_6 (Co_inForce_9 (fun c9 => (Co_inForce_56 (Co_inForce_57 ?_))) (fun c9 => ?_)))))
    · exact k
    · rw [hn.2.1] at c9; exact absurd (Int32.le_refl _) c9
  | succ n ih =>
    intro i a4 hi
    have b7 : h.1 10 (i * 9 + 7) = h.1 78 i := (hn.2.2 i (by omega)).2.2.2.2.2.2.2.2.1
    have b8 : h.1 10 (i * 9 + 8) = h.1 79 i := (hn.2.2 i (by omega)).2.2.2.2.2.2.2.2.2
    have nx : ∀ (v : Int32) (a4 : Value), (v = if iF h z i then bset (iF h z) i ||| ((1 : Int32) <<< (nI i &&& 31)) else bset (iF h z) i) → E X (d + 1) Co_inForce 4 [.ref 9, .int z, .int v, .int (nI i + 1), a4] [] h Q := by
      intro v a4 hv
      have := ih (i + 1) a4 (by omega)
      rw [bset, ← hv] at this
      rw [nI_1]
      exact this
    refine (Co_inForce_4 (Co_inForce_5 (Co_inForce_6 (Co_inForce_9 (fun c9 => (Co_inForce_56 (Co_inForce_57 ?_))) (fun c9 => (Co_inForce_12 (Co_inForce_13 (Co_inForce_14 (Co_inForce_16 (Nat.le_of_ble_eq_true rfl) (Co_get_c (by first | assumption | exact rfl) (show (8 : Int32) = nI 8 from rfl) (by omega) (by omega) (Co_inForce_19 (Co_inForce_21 (Co_inForce_22 (Co_inForce_23 (Co_inForce_25 (Nat.le_of_ble_eq_true rfl) (Co_get_c (by first | assumption | exact rfl) (show (7 : Int32) = nI 7 from rfl) (by omega) (by omega) (Co_inForce_28 (Co_inForce_29 (fun c29 => (Co_inForce_50 (Co_inForce_53 ?_))) (fun c29 => (Co_inForce_32 (Co_inForce_34 (Co_inForce_35 (fun c35 => (Co_inForce_44 (Co_inForce_45 (Co_inForce_46 (Co_inForce_47 (Co_inForce_48 (Co_inForce_49 (Co_inForce_50 (Co_inForce_53 ?_))))))))) (fun c35 => (Co_inForce_38 (Co_inForce_39 (Co_inForce_41 (fun c41 => (Co_inForce_50 (Co_inForce_53 ?_))) (fun c41 => (Co_inForce_44 (Co_inForce_45 (Co_inForce_46 (Co_inForce_47 (Co_inForce_48 (Co_inForce_49 (Co_inForce_50 (Co_inForce_53 ?_)))))))))))))))))))))))))))))))))))
    · rw [hn.2.1] at c9; exact absurd ((leN rfl rfl (by omega) (by omega)).mp c9) (by omega)
    · rw [b7] at c29
      refine nx _ _ ?_
      rw [iF, decide_eq_false (Int32.not_le.mpr c29)]; rfl
    · rw [b7] at c29; rw [b8] at c35
      refine nx _ _ ?_
      rw [iF, decide_eq_true (Int32.not_lt.mp c29), decide_eq_true c35]; rfl
    · rw [b7] at c29; rw [b8] at c35 c41
      refine nx _ _ ?_
      rw [iF, decide_eq_true (Int32.not_lt.mp c29), decide_eq_false c35, decide_eq_false (Int32.not_lt.mpr c41)]; rfl
    · rw [b7] at c29; rw [b8] at c35 c41
      refine nx _ _ ?_
      rw [iF, decide_eq_true (Int32.not_lt.mp c29), decide_eq_false c35, decide_eq_true (Int32.not_le.mp c41)]; rfl
theorem Co_inForce_c (hn : iLines h 9 L 79) (k : Q (bset (iF h z) L) h) : E X (d + 1) Co_inForce 0 [.ref 9, .int z, U0, U0, U0] [] h Q := by
  refine (Co_inForce_0 (Co_inForce_1 (Co_inForce_2 (Co_inForce_3 ?_))))
  exact Co_inForce_l hn k L 0 _ (by omega)
theorem FM_isInForce_c (hl : l < 12) (ex : x = nI l) (t : iF h z l = true → Q 1 h) (f : iF h z l = false → Q 0 h) : E X d FM_isInForce 0 [.ref 57, .int x, .int z] [] h Q := by
  subst ex
  unfold iF at t f
  refine (FM_isInForce_0 (FM_isInForce_1 (FM_isInForce_4 (FM_isInForce_5n (by first | assumption | exact rfl) (by omega) (FM_isInForce_6 (FM_isInForce_7 (fun c7 => (FM_isInForce_34 (FM_isInForce_35 rfl ?_))) (fun c7 => (FM_isInForce_10 (FM_isInForce_11 (FM_isInForce_14 (FM_isInForce_15n (by first | assumption | exact rfl) (by omega) (FM_isInForce_16 (FM_isInForce_17 (fun c17 => (FM_isInForce_30 (FM_isInForce_31 (FM_isInForce_35 rfl ?_)))) (fun c17 => (FM_isInForce_20 (FM_isInForce_21 (FM_isInForce_22 (FM_isInForce_25 (FM_isInForce_26n (by first | assumption | exact rfl) (by omega) (FM_isInForce_27 (fun c27 => (FM_isInForce_34 (FM_isInForce_35 rfl ?_))) (fun c27 => (FM_isInForce_30 (FM_isInForce_31 (FM_isInForce_35 rfl ?_))))))))))))))))))))))))
  · exact f (by rw [decide_eq_false (Int32.not_le.mpr c7)]; rfl)
  · exact t (by rw [decide_eq_true (Int32.not_lt.mp c7), decide_eq_true c17]; rfl)
  · exact f (by rw [decide_eq_true (Int32.not_lt.mp c7), decide_eq_false c17, decide_eq_false (Int32.not_lt.mpr c27)]; rfl)
  · exact t (by rw [decide_eq_true (Int32.not_lt.mp c7), decide_eq_false c17, decide_eq_true (Int32.not_le.mp c27)]; rfl)
theorem Co_kindsOf_l (hn : iLines h 9 L 79) (k : Q (kb (h.1 71) (bt x) L) h) : ∀ (n i : Nat), i + n = L → E X (d + 1) Co_kindsOf 4 [.ref 9, .int x, .int (kb (h.1 71) (bt x) i), .int (nI i)] [] h Q := by
  have hL := hn.1
  intro n
  induction n with
  | zero =>
    intro i hi
    obtain rfl : i = L := by omega
    refine (Co_kindsOf_4 (Co_kindsOf_5 (Co_kindsOf_6 (Co_kindsOf_9 (fun c9 => (Co_kindsOf_38 (Co_kindsOf_39 ?_))) (fun c9 => ?_)))))
    · exact k
    · rw [hn.2.1] at c9; exact absurd (Int32.le_refl _) c9
  | succ n ih =>
    intro i hi
    have b0 : h.1 10 (i * 9 + 0) = h.1 71 i := (hn.2.2 i (by omega)).2.1
    have nx : ∀ (v : Int32), (v = kb (h.1 71) (bt x) i ||| (if bt x i then (1 : Int32) <<< (h.1 71 i &&& 31) else 0)) → E X (d + 1) Co_kindsOf 4 [.ref 9, .int x, .int v, .int (nI i + 1)] [] h Q := by
      intro v hv
      have := ih (i + 1) (by omega)
      rw [kb, ← hv] at this
      rw [nI_1]
      exact this
    refine (Co_kindsOf_4 (Co_kindsOf_5 (Co_kindsOf_6 (Co_kindsOf_9 (fun c9 => (Co_kindsOf_38 (Co_kindsOf_39 ?_))) (fun c9 => (Co_kindsOf_12 (Co_kindsOf_13 (Co_kindsOf_14 (Co_kindsOf_15 (Co_kindsOf_16 (Co_kindsOf_17 (Co_kindsOf_18 (fun c18 => (Co_kindsOf_32 (Co_kindsOf_35 ?_))) (fun c18 => (Co_kindsOf_21 (Co_kindsOf_22 (Co_kindsOf_23 (Co_kindsOf_24 (Co_kindsOf_25 (Co_kindsOf_26 (Nat.le_of_ble_eq_true rfl) (Co_get_c (by first | assumption | exact rfl) (show (0 : Int32) = nI 0 from rfl) (by omega) (by omega) (Co_kindsOf_29 (Co_kindsOf_30 (Co_kindsOf_31 (Co_kindsOf_32 (Co_kindsOf_35 ?_)))))))))))))))))))))))))
    · rw [hn.2.1] at c9; exact absurd ((leN rfl rfl (by omega) (by omega)).mp c9) (by omega)
    · rw [bt_get1 x (by omega)] at c18
      refine nx _ ?_
      rw [if_neg c18, or0]
    · rw [bt_get1 x (by omega)] at c18
      refine nx _ ?_
      rw [if_pos c18, b0]
theorem Co_kindsOf_c (hn : iLines h 9 L 79) (k : Q (kb (h.1 71) (bt x) L) h) : E X (d + 1) Co_kindsOf 0 [.ref 9, .int x, U0, U0] [] h Q := by
  refine (Co_kindsOf_0 (Co_kindsOf_1 (Co_kindsOf_2 (Co_kindsOf_3 ?_))))
  exact Co_kindsOf_l hn k L 0 (by omega)
theorem Co_leastOf_l (hn : iLines h 9 L 79) : ∀ (n i : Nat), i + n = L → Q (wy (h.1 71) u (bt x) n i) h → E X (d + 1) Co_leastOf 2 [.ref 9, .int u, .int x, .int (nI i)] [] h Q := by
  have hL := hn.1
  intro n
  induction n with
  | zero =>
    intro i hi k
    obtain rfl : i = L := by omega
    refine (Co_leastOf_2 (Co_leastOf_3 (Co_leastOf_4 (Co_leastOf_7 (fun c7 => (Co_leastOf_37 (Co_leastOf_38 ?_))) (fun c7 => ?_)))))
    · exact k
    · rw [hn.2.1] at c7; exact absurd (Int32.le_refl _) c7
  | succ n ih =>
    intro i hi k
    have b0 : h.1 10 (i * 9 + 0) = h.1 71 i := (hn.2.2 i (by omega)).2.1
    rw [wy] at k
    refine (Co_leastOf_2 (Co_leastOf_3 (Co_leastOf_4 (Co_leastOf_7 (fun c7 => (Co_leastOf_37 (Co_leastOf_38 ?_))) (fun c7 => (Co_leastOf_10 (Co_leastOf_11 (Co_leastOf_12 (Co_leastOf_13 (Co_leastOf_14 (Co_leastOf_15 (Co_leastOf_16 (fun c16 => (Co_leastOf_31 (Co_leastOf_34 ?_))) (fun c16 => (Co_leastOf_19 (Co_leastOf_20 (Co_leastOf_21 (Co_leastOf_22 (Nat.le_of_ble_eq_true rfl) (Co_get_c (by first | assumption | exact rfl) (show (0 : Int32) = nI 0 from rfl) (by omega) (by omega) (Co_leastOf_25 (Co_leastOf_26 (fun c26 => (Co_leastOf_31 (Co_leastOf_34 ?_))) (fun c26 => (Co_leastOf_29 (Co_leastOf_30 ?_)))))))))))))))))))))))
    · rw [hn.2.1] at c7; exact absurd ((leN rfl rfl (by omega) (by omega)).mp c7) (by omega)
    · rw [bt_get1 x (by omega)] at c16
      rw [if_neg (fun y => c16 y.1)] at k
      rw [nI_1]
      exact ih _ (by omega) k
    · rw [b0] at c26
      rw [if_neg (fun y => c26 y.2)] at k
      rw [nI_1]
      exact ih _ (by omega) k
    · rw [bt_get1 x (by omega)] at c16; rw [b0] at c26
      rw [if_pos ⟨c16, c26⟩] at k
      exact k
theorem Co_leastOf_c (hn : iLines h 9 L 79) (k : Q (wy (h.1 71) u (bt x) L 0) h) : E X (d + 1) Co_leastOf 0 [.ref 9, .int u, .int x, U0] [] h Q := by
  refine (Co_leastOf_0 (Co_leastOf_1 ?_))
  exact Co_leastOf_l hn L 0 (by omega) k
/-- which lines count for a week: in force at u, without g, holding -/
def oP (h : HH) (S dd c : Nat) (z u g : Int32) (l : Nat) : Bool := (!decide (nI l = g)) && (iF h u l && hP (tB h S dd c z) (h.1 77) l)
theorem FM_bits_l {g : Int32} (hs : iSigns h 4 S w) (hS : h.1 57 15 = nI S) (mL : h.1 57 21 = nI L) (hn : iLines h 9 L 79) (h1 : dd < 6) (h4 : c ≤ 60) (k : Q (kb (h.1 71) (oP h S dd c z u g) L) h) : ∀ (n i : Nat), i + n = L → E X (d + 4) FM_bits 6 [.ref 57, .int (nI dd), .int (nI c), .int z, .int u, .int g, .int (kb (h.1 71) (oP h S dd c z u g) i), .int (nI i)] [] h Q := by
  have hL := hn.1
  intro n
  induction n with
  | zero =>
    intro i hi
    obtain rfl : i = L := by omega
    refine (FM_bits_6 (FM_bits_8 (FM_bits_9 (FM_bits_12 (fun c12 => (FM_bits_69 (FM_bits_71 ?_))) (fun c12 => ?_)))))
    · exact k
    · rw [mL] at c12; exact absurd (Int32.le_refl _) c12
  | succ n ih =>
    intro i hi
    have nx : ∀ (v : Int32), (v = kb (h.1 71) (oP h S dd c z u g) i ||| (if oP h S dd c z u g i then (1 : Int32) <<< (h.1 71 i &&& 31) else 0)) → E X (d + 4) FM_bits 6 [.ref 57, .int (nI dd), .int (nI c), .int z, .int u, .int g, .int v, .int (nI i + 1)] [] h Q := by
      intro v hv
      have := ih (i + 1) (by omega)
      rw [kb, ← hv] at this
      rw [nI_1]
      exact this
    have hi12 : i < 12 := by omega
    refine (FM_bits_6 (FM_bits_8 (FM_bits_9 (FM_bits_12 (fun c12 => (FM_bits_69 (FM_bits_71 ?_))) (fun c12 => (FM_bits_15 (FM_bits_17 (FM_bits_19 (FM_bits_21 (fun c21 => (FM_bits_59 (FM_bits_60 (FM_bits_61 (FM_bits_63 (FM_bits_66 ?_)))))) (fun c21 => (FM_bits_24 (FM_bits_25 (FM_bits_27 (FM_bits_29 (Nat.le_of_ble_eq_true rfl) ?_))))))))))))))
    · rw [mL] at c12; exact absurd ((leN rfl rfl (by omega) (by omega)).mp c12) (by omega)
    · refine nx _ ?_
      rw [oP, decide_eq_true c21]; rfl
    · refine FM_isInForce_c hi12 rfl (fun y1 => ?_) (fun y1 => ?_)
      · refine (FM_bits_32 (fun z => absurd z (by decide)) (fun _ => (FM_bits_35 (FM_bits_36 (FM_bits_38 (FM_bits_39 (FM_bits_40 (FM_bits_41 (Nat.le_of_ble_eq_true rfl) ?_))))))))
        refine FM_holdsAt_c hs hS hn rfl rfl rfl (by omega) h1 h4 (fun y2 => ?_) (fun y2 => ?_)
        · refine (FM_bits_44 (fun z => absurd z (by decide)) (fun _ => (FM_bits_47 (FM_bits_48 (FM_bits_49 (FM_bits_52 (FM_bits_54n (by first | assumption | exact rfl) (by omega) (FM_bits_55 (FM_bits_56 (FM_bits_60 (FM_bits_61 (FM_bits_63 (FM_bits_66 ?_)))))))))))))
          refine nx _ ?_
          rw [oP, decide_eq_false c21, y1, y2]; rfl
        · refine (FM_bits_44 (fun _ => (FM_bits_59 (FM_bits_60 (FM_bits_61 (FM_bits_63 (FM_bits_66 ?_)))))) (fun z => absurd z (by decide)))
          refine nx _ ?_
          rw [oP, decide_eq_false c21, y1, y2]; rfl
      · refine (FM_bits_32 (fun _ => (FM_bits_59 (FM_bits_60 (FM_bits_61 (FM_bits_63 (FM_bits_66 ?_)))))) (fun z => absurd z (by decide)))
        refine nx _ ?_
        rw [oP, decide_eq_false c21, y1]; rfl
theorem FM_bits_c {g y v : Int32} (hs : iSigns h 4 S w) (hS : h.1 57 15 = nI S) (mL : h.1 57 21 = nI L) (hn : iLines h 9 L 79) (ey : y = nI dd) (ev : v = nI c) (h1 : dd < 6) (h4 : c ≤ 60) (k : Q (kb (h.1 71) (oP h S dd c z u g) L) h) : E X (d + 4) FM_bits 0 [.ref 57, .int y, .int v, .int z, .int u, .int g, U0, U0] [] h Q := by
  subst ey; subst ev
  refine (FM_bits_0 (FM_bits_1 (FM_bits_3 (FM_bits_4 ?_))))
  exact FM_bits_l hs hS mL hn h1 h4 k L 0 (by omega)
theorem FM_why_l (hs : iSigns h 4 S w) (hS : h.1 57 15 = nI S) (mL : h.1 57 21 = nI L) (hn : iLines h 9 L 79) (h1 : dd < 6) (h4 : c ≤ 60) : ∀ (n i : Nat), i + n = L → Q (wy (h.1 71) u (fun l => iF h (nI c) l && hP (tB h S dd c z) (h.1 77) l) n i) h → E X (d + 4) FM_why 37 [.ref 57, .int u, .int (nI dd), .int (nI c), .int z, .int (nI i)] [] h Q := by
  have hL := hn.1
  intro n
  induction n with
  | zero =>
    intro i hi k
    obtain rfl : i = L := by omega
    refine (FM_why_37 (FM_why_39 (FM_why_40 (FM_why_43 (fun c43 => (FM_why_89 (FM_why_90 ?_))) (fun c43 => ?_)))))
    · exact k
    · rw [mL] at c43; exact absurd (Int32.le_refl _) c43
  | succ n ih =>
    intro i hi k
    rw [wy] at k
    have hi12 : i < 12 := by omega
    refine (FM_why_37 (FM_why_39 (FM_why_40 (FM_why_43 (fun c43 => (FM_why_89 (FM_why_90 ?_))) (fun c43 => (FM_why_46 (FM_why_47 (FM_why_50 (FM_why_52n (by first | assumption | exact rfl) (by omega) (FM_why_53 (FM_why_54 (fun c54 => (FM_why_83 (FM_why_86 ?_))) (fun c54 => (FM_why_57 (FM_why_58 (FM_why_60 (FM_why_61 (Nat.le_of_ble_eq_true rfl) ?_))))))))))))))))
    · rw [mL] at c43; exact absurd ((leN rfl rfl (by omega) (by omega)).mp c43) (by omega)
    · rw [if_neg (fun y => c54 y.2)] at k
      rw [nI_1]
      exact ih _ (by omega) k
    · refine FM_isInForce_c hi12 rfl (fun y1 => ?_) (fun y1 => ?_)
      · refine (FM_why_64 (fun z => absurd z (by decide)) (fun _ => (FM_why_67 (FM_why_68 (FM_why_70 (FM_why_71 (FM_why_72 (FM_why_74 (Nat.le_of_ble_eq_true rfl) ?_))))))))
        refine FM_holdsAt_c hs hS hn rfl rfl rfl (by omega) h1 h4 (fun y2 => ?_) (fun y2 => ?_)
        · refine (FM_why_77 (fun z => absurd z (by decide)) (fun _ => (FM_why_80 (FM_why_82 ?_))))
          rw [if_pos ⟨by simp only [y1, y2]; rfl, c54⟩] at k
          exact k
        · refine (FM_why_77 (fun _ => (FM_why_83 (FM_why_86 ?_))) (fun z => absurd z (by decide)))
          rw [if_neg (fun y => by simp [y2] at y)] at k
          rw [nI_1]
          exact ih _ (by omega) k
      · refine (FM_why_64 (fun _ => (FM_why_83 (FM_why_86 ?_))) (fun z => absurd z (by decide)))
        rw [if_neg (fun y => by simp [y1] at y)] at k
        rw [nI_1]
        exact ih _ (by omega) k
theorem wy_cg {kd kd' : Nat → Int32} {k : Int32} {P P' : Nat → Bool} {L : Nat} : ∀ (n i : Nat), i + n ≤ L → (∀ j, j < L → P j = P' j ∧ kd j = kd' j) → wy kd k P n i = wy kd' k P' n i
  | 0, _, _, _ => rfl
  | n + 1, i, hi, e => by unfold wy; rw [(e i (by omega)).1, (e i (by omega)).2, wy_cg n (i + 1) (by omega) e]
theorem bt_force {L i : Nat} {F P : Nat → Bool} (hL : L ≤ 12) (hi : i < L) : bt (bset F L &&& bset P L) i = (F i && P i) := by
  rw [b_and, bt_bset L (by omega) (by omega), bt_bset L (by omega) (by omega), decide_eq_true hi, Bool.true_and, Bool.true_and]
end HO
