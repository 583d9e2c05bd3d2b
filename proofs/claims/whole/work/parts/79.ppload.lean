/-! load, loaded, bring -/
section PL
variable {X : SX} {d g D W keep : Nat} {h : HH} {Q : Int32 → HH → Prop} {f t : Nat → Nat} {p k cp sp : Nat → Int}
def lF (h : HH) (w : Nat) : Nat := (h.1 80 w).toNatClampNeg
def lT (h : HH) (w : Nat) : Nat := (h.1 81 w).toNatClampNeg
def lP (h : HH) (w : Nat) : Int := (h.1 83 w).toInt
def lC (h : HH) (w : Nat) : Int := (h.1 82 w).toInt
def lK (h : HH) (w : Nat) : Int := lP h w * 531441 + 3 ^ (11 - w)
def lS (h : HH) (g keep d : Nat) : Int := if d = g then 0 else if (h.1 58 d).toInt ≤ keep then 0 else (h.1 58 d).toInt - keep
theorem isN_i {x : Int32} {l m : Nat} (e : isN x l m) (hm : m < 2 ^ 31) : (l : Int) ≤ x.toInt ∧ x.toInt ≤ m := by
  obtain ⟨j, h1, h2, rfl⟩ := e
  rw [nI_toInt (by omega)]
  omega
theorem isLt_c {x : Int32} {D : Nat} (e : isLt x D) (hD : D < 2 ^ 31) : x.toNatClampNeg < D ∧ x = nI x.toNatClampNeg := by
  obtain ⟨j, h1, rfl⟩ := e
  rw [nI_clamp (by omega)]
  exact ⟨h1, rfl⟩
theorem ld_env {w S L K : Nat} (hc : iCnt h D w S L W K) (hl : iLand h 2 D 58 59 60 61 62 63 64 0 0) (hw : iWays h 11 W D) (gD : g < D) (hk : keep ≤ 99999) :
    LdH h (lF h) (lT h) (lK h) (lC h) (lS h g keep) W D g keep ∧ MdH h (lF h) (lT h) (lP h) W D g ∧ MdS h (lS h g keep) D g keep ∧ (∀ w, w < W → (h.1 82 w).toInt = lC h w ∧ 0 ≤ lC h w ∧ lC h w ≤ 999) ∧ (∀ w, w < W → (h.1 15 w).toInt = lP h w) ∧ ∀ d, d < 6 → h.1 3 (d * 15 + 0) = h.1 58 d := by
  obtain ⟨hD6, hw60, hD, hD', hwk, hwk', hwg, hwg', hpd, hln, her, hS, hL, hW, hK⟩ := id hc
  obtain ⟨W12, hW4, en⟩ := hw
  obtain ⟨l1, l2, l3, l4⟩ := hl
  have st : ∀ d, d < 6 → h.1 3 (d * 15 + 0) = h.1 58 d := fun d hd => by have := (l1 d hd).1; rw [Nat.zero_add] at this; exact this
  have sz : ∀ d, d < D → 0 ≤ (h.1 58 d).toInt ∧ (h.1 58 d).toInt ≤ 99999 := fun d hd => by
    have := isN_i (l3 d hd).1 (by omega)
    rw [Nat.zero_add] at this
    omega
  have way : ∀ w, w < W → lF h w < D ∧ lT h w < D ∧ lF h w ≠ lT h w ∧ h.1 80 w = nI (lF h w) ∧ h.1 81 w = nI (lT h w) ∧ 1 ≤ lP h w ∧ lP h w ≤ 99 ∧ 1 ≤ lC h w ∧ lC h w ≤ 999 := fun w hw => by
    obtain ⟨⟨e1, e2, e3, e4, e5⟩, _⟩ := en w hw
    obtain ⟨a1, a2⟩ := isLt_c e1 (by omega)
    obtain ⟨b1, b2⟩ := isLt_c e2 (by omega)
    obtain ⟨p1, p2⟩ := isN_i e4 (by omega)
    obtain ⟨q1, q2⟩ := isN_i e5 (by omega)
    exact ⟨a1, b1, fun z => e3 (by rw [a2, b2]; exact congrArg nI z), a2, b2, q1, q2, p1, p2⟩
  have spv : ∀ d, d < D → 0 ≤ lS h g keep d ∧ (d = g → lS h g keep d = 0) ∧ (d ≠ g → (h.1 58 d).toInt ≤ keep → lS h g keep d = 0) ∧ (d ≠ g → keep ≤ (h.1 58 d).toInt → lS h g keep d = (h.1 58 d).toInt - keep) := fun d hd => by
    unfold lS
    by_cases z : d = g
    · rw [if_pos z]
      exact ⟨Int.le_refl _, fun _ => rfl, fun y => absurd z y, fun y => absurd z y⟩
    · rw [if_neg z]
      by_cases y : (h.1 58 d).toInt ≤ keep
      · rw [if_pos y]
        exact ⟨Int.le_refl _, fun _ => rfl, fun _ _ => rfl, fun _ _ => by omega⟩
      · rw [if_neg y]
        exact ⟨by omega, fun v => absurd v z, fun _ v => absurd v y, fun _ _ => rfl⟩
  refine ⟨⟨W12, hD6, gD, hk, hW4, hD, fun w hw => ?_, fun d hd => ?_⟩, ⟨W12, hD6, gD, hW, hD', fun w hw => ?_⟩, ⟨hk, fun d hd => ?_⟩, fun w hw => ?_, fun w hw => ?_, st⟩
  · obtain ⟨a1, a2, a3, a4, a5, a6, a7, a8, a9⟩ := way w hw
    obtain ⟨_, r1, r2, r3, r4⟩ := en w hw
    have r15 : (h.1 15 w).toInt = lP h w := congrArg Int32.toInt r4
    refine ⟨a1, a2, a3, r1.trans a4, r2.trans a5, congrArg Int32.toInt r3, a8, a9, by omega, by omega, ?_⟩
    rw [r15]; rfl
  · rw [st d (by omega)]
    have := sz d hd
    have := spv d hd
    exact ⟨by omega, by omega, this⟩
  · obtain ⟨a1, a2, a3, a4, a5, a6, a7, a8, a9⟩ := way w hw
    exact ⟨a1, a2, a3, a4, a5, rfl, a6, a7⟩
  · have := sz d hd
    have := spv d hd
    exact ⟨by omega, by omega, this⟩
  · obtain ⟨a1, a2, a3, a4, a5, a6, a7, a8, a9⟩ := way w hw
    exact ⟨rfl, by omega, a9⟩
  · obtain ⟨_, r1, r2, r3, r4⟩ := en w hw
    exact congrArg Int32.toInt r4
theorem MdH_57 {H : HH} (M : MdH h f t p W D g) (e1 : H.1 57 31 = h.1 57 31) (e2 : H.1 57 1 = h.1 57 1) (e : H.1 80 = h.1 80 ∧ H.1 81 = h.1 81 ∧ H.1 83 = h.1 83) : MdH H f t p W D g := by
  unfold MdH
  rw [e1, e2, e.1, e.2.1, e.2.2]
  exact M
theorem FAR_ne {W : Nat} {n : Int} {x z : Nat → Int} (M : MdH h f t p W D g) (C : ∀ w, w < W → (h.1 82 w).toInt = cp w ∧ 0 ≤ cp w ∧ cp w ≤ 999) (F : Feas f t cp sp W D g x z n) : ¬ Int32.ofInt (kc p W x) = 1000000000 := fun e => by
  obtain ⟨k1, k2⟩ := kc_bd (p := p) (cp := cp) M.1 (fun w hw => by have := M.2.2.2.2.2 w hw; omega) (fun w hw => (C w hw).2.2) F
  exact absurd (ofI_b k1 (by omega) (by omega) (by omega) (show Int32.ofInt (kc p W x) = Int32.ofInt 1000000000 from e)) (by omega)
/-- the model finds the class's load -/
theorem find_1 {n : Nat} {x z pt : Nat → Int} (M : MdH h f t p W D g) (St : MdS h sp D g keep) (C : ∀ w, w < W → (h.1 82 w).toInt = cp w ∧ 0 ≤ cp w ∧ cp w ≤ 999) (hn : n ≤ 9999) (hk : ∀ w, w < W → k w = p w * 531441 + 3 ^ (11 - w)) (F : Feas f t cp sp W D g x z n) (V : Vali f t k cp sp W D pt x z)
    (K : ∀ H, frK h H → (∀ w, w < W → (H.1 88 w).toInt = x w) → Q (Int32.ofInt (kc p W x)) H) : E X (d + 3) FM_findLoad 0 [.ref 57, .int (nI g), .int (nI n), .int (nI keep), U0, U0, U0, U0] [] h Q := by
  have E0 : Ends f t W D g := ⟨M.1, M.2.1, M.2.2.1, fun w hw => ⟨(M.2.2.2.2.2 w hw).1, (M.2.2.2.2.2 w hw).2.1, (M.2.2.2.2.2 w hw).2.2.1⟩⟩
  refine findLoad_c M St C hn (fun H y z2 fr F2 L tn => ?_) (fun H fr no => absurd F (no x z))
  have xy := lex_opt E0 hk F F2 (fun x' z' F' => weak_dual E0 F F' V) L
  have kk : kc p W y = kc p W x := smI_cg W (fun w hw => by rw [xy w hw])
  rw [kk]
  exact K H fr (fun w hw => by rw [tn w hw, xy w hw])
theorem find_0 {n : Nat} (M : MdH h f t p W D g) (St : MdS h sp D g keep) (C : ∀ w, w < W → (h.1 82 w).toInt = cp w ∧ 0 ≤ cp w ∧ cp w ≤ 999) (hn : n ≤ 9999) (no : ∀ x z, ¬ Feas f t cp sp W D g x z n)
    (K : ∀ H, frK h H → Q 1000000000 H) : E X (d + 3) FM_findLoad 0 [.ref 57, .int (nI g), .int (nI n), .int (nI keep), U0, U0, U0, U0] [] h Q :=
  findLoad_c M St C hn (fun H y z2 fr F2 L tn => absurd F2 (no y z2)) (fun H fr _ => K H fr)
theorem Inv_2 {H H2 : HH} (hi : Inv h) (fr : frP h H) (fr2 : frK H H2) : Inv H2 :=
  Inv_ld (fun r a b c e u v w x y z => (fr2.1 r v w x y z).trans (fr.1 r a b c e u)) hi
end PL
section PLL
set_option maxHeartbeats 2000000 in
theorem pp_load : PP_load := by
  intro X h a n ke hi
  obtain ⟨D, w, S, L, W, K, ⟨hm1, bk, hb, hb1, hb2⟩, hc, hl, hs, hn, hw, hk, ha, hx, hh, hp⟩ := id hi
  obtain ⟨hD6, hw60, hD, hD', hwk, hwk', hwg, hwg', hpd, hln, her, hS, hL, hW, hK⟩ := id hc
  refine (FC_load_0 (FC_load_1 (FC_load_2 (FC_load_3 (FC_load_4 (Nat.le_of_ble_eq_true rfl) (FC_canAskLoad_c (fun c4 => (FC_load_7 (fun z => absurd z (by decide)) (fun _ => (FC_load_10 (FC_load_11 (FC_load_14 (FC_load_15 (FC_load_18 (FC_load_21 (FC_load_22 (FC_load_25 (FC_load_28 (FC_load_29 (FC_load_30 (FC_load_31 (Nat.le_of_ble_eq_true rfl) ?_))))))))))))))) (fun c4 => (FC_load_7 (fun _ => (FC_load_41 (FC_load_42 (FC_load_44 (FC_load_46 (fun _ => (FC_load_66 (FC_load_67 ?_))) (fun z => absurd z (by decide))))))) (fun z => absurd z (by decide))))))))))
  · obtain ⟨g, gD, rfl⟩ := (isLt_of hD (by omega)).mp c4.1
    obtain ⟨N, N1, N9, rfl⟩ := (isN_of (l := 1) (m := 9999) rfl rfl (by omega) (by omega)).mp c4.2.1
    obtain ⟨keep, -, k9, rfl⟩ := (isN_of (l := 0) (m := 99999) rfl rfl (by omega) (by omega)).mp c4.2.2
    obtain ⟨L1, M1, S1, C1, P1, -⟩ := ld_env hc hl hw gD k9
    have hk0 : ∀ w, w < W → lK h w = lP h w * 531441 + 3 ^ (11 - w) := fun w hw => rfl
    refine plan_c L1 N9 (fun H x z pt fr F V tn => ?_) (fun H fr no => ?_)
    · have e57 : H.1 57 = h.1 57 := fr.1 57 (by omega) (by omega) (by omega) (by omega) (by omega)
      have M2 : MdH H (lF h) (lT h) (lP h) W D g := MdH_57 M1 (by rw [e57]) (by rw [e57]) ⟨fr.1 80 (by omega) (by omega) (by omega) (by omega) (by omega), fr.1 81 (by omega) (by omega) (by omega) (by omega) (by omega), fr.1 83 (by omega) (by omega) (by omega) (by omega) (by omega)⟩
      have S2 : MdS H (lS h g keep) D g keep := by unfold MdS; rw [fr.1 58 (by omega) (by omega) (by omega) (by omega) (by omega)]; exact S1
      have C2 : ∀ w, w < W → (H.1 82 w).toInt = lC h w ∧ 0 ≤ lC h w ∧ lC h w ≤ 999 := by rw [fr.1 82 (by omega) (by omega) (by omega) (by omega) (by omega)]; exact C1
      refine (FC_load_34 (fun z => absurd z (by decide)) (fun _ => (FC_load_37 (FC_load_38 (FC_load_42 (FC_load_44 (FC_load_46 (fun z => absurd z (by decide)) (fun _ => (FC_load_49 (FC_load_50 (FC_load_53 (FC_load_54 (FC_load_57 (FC_load_60 (Nat.le_of_ble_eq_true rfl) ?_))))))))))))))
      refine priceOf_c hw.1 (by rw [fr.1 11 (by omega) (by omega) (by omega) (by omega) (by omega)]; exact hw.2.1) tn (by rw [fr.1 15 (by omega) (by omega) (by omega) (by omega) (by omega)]; exact P1) ?_
      refine (FC_load_63 (FC_load_67 ?_))
      refine (FM_load_0 (FM_load_1 (FM_load_2 (FM_load_3 (FM_load_4 (Nat.le_of_ble_eq_true rfl) (FM_isLoad_c (fun z4 => (FM_load_7 (fun _ => (FM_load_12 (FM_load_13 (FM_load_14 (FM_load_15 (FM_load_16 (Nat.le_of_ble_eq_true rfl) ?_)))))) (fun z => absurd z (by decide)))) (fun z4 => (FM_load_7 (fun z => absurd z (by decide)) (fun _ => (FM_load_10 (FM_load_11 ?_)))))))))))
      · refine find_1 M2 S2 C2 N9 hk0 F V (fun H2 fr2 tn2 => ?_)
        refine (FM_load_19 (FM_load_21 (FM_load_23 (FM_load_26 (fun c26 => (FM_load_33 (FM_load_35 ?_))) (fun c26 => (FM_load_29 (FM_load_30 (FM_load_35 ?_))))))))
        · exact ⟨rfl, Inv_2 hi fr fr2⟩
        · exact absurd c26 (FAR_ne M1 C1 F)
      · exact absurd ⟨(isLt_of (show H.1 57 1 = nI D by rw [e57]; exact hD') (by omega)).mpr ⟨g, gD, rfl⟩, c4.2.1, c4.2.2⟩ z4
    · have e57 : H.1 57 = h.1 57 := fr.1 57 (by omega) (by omega) (by omega) (by omega) (by omega)
      have M2 : MdH H (lF h) (lT h) (lP h) W D g := MdH_57 M1 (by rw [e57]) (by rw [e57]) ⟨fr.1 80 (by omega) (by omega) (by omega) (by omega) (by omega), fr.1 81 (by omega) (by omega) (by omega) (by omega) (by omega), fr.1 83 (by omega) (by omega) (by omega) (by omega) (by omega)⟩
      have S2 : MdS H (lS h g keep) D g keep := by unfold MdS; rw [fr.1 58 (by omega) (by omega) (by omega) (by omega) (by omega)]; exact S1
      have C2 : ∀ w, w < W → (H.1 82 w).toInt = lC h w ∧ 0 ≤ lC h w ∧ lC h w ≤ 999 := by rw [fr.1 82 (by omega) (by omega) (by omega) (by omega) (by omega)]; exact C1
      refine (FC_load_34 (fun _ => (FC_load_41 (FC_load_42 (FC_load_44 (FC_load_46 (fun _ => (FC_load_66 (FC_load_67 ?_))) (fun z => absurd z (by decide))))))) (fun z => absurd z (by decide)))
      refine (FM_load_0 (FM_load_1 (FM_load_2 (FM_load_3 (FM_load_4 (Nat.le_of_ble_eq_true rfl) (FM_isLoad_c (fun z4 => (FM_load_7 (fun _ => (FM_load_12 (FM_load_13 (FM_load_14 (FM_load_15 (FM_load_16 (Nat.le_of_ble_eq_true rfl) ?_)))))) (fun z => absurd z (by decide)))) (fun z4 => (FM_load_7 (fun z => absurd z (by decide)) (fun _ => (FM_load_10 (FM_load_11 ?_)))))))))))
      · refine find_0 M2 S2 C2 N9 no (fun H2 fr2 => ?_)
        refine (FM_load_19 (FM_load_21 (FM_load_23 (FM_load_26 (fun c26 => (FM_load_33 (FM_load_35 ?_))) (fun c26 => (FM_load_29 (FM_load_30 (FM_load_35 ?_))))))))
        · exact absurd rfl c26
        · exact ⟨rfl, Inv_2 hi fr fr2⟩
      · exact absurd ⟨(isLt_of (show H.1 57 1 = nI D by rw [e57]; exact hD') (by omega)).mpr ⟨g, gD, rfl⟩, c4.2.1, c4.2.2⟩ z4
  · refine (FM_load_0 (FM_load_1 (FM_load_2 (FM_load_3 (FM_load_4 (Nat.le_of_ble_eq_true rfl) (FM_isLoad_c (fun z4 => (FM_load_7 (fun _ => (FM_load_12 (FM_load_13 (FM_load_14 (FM_load_15 (FM_load_16 (Nat.le_of_ble_eq_true rfl) ?_)))))) (fun z => absurd z (by decide)))) (fun z4 => (FM_load_7 (fun z => absurd z (by decide)) (fun _ => (FM_load_10 (FM_load_11 ?_)))))))))))
    · exact absurd ⟨(isLt_of hD (by omega)).mpr ((isLt_of hD' (by omega)).mp z4.1), z4.2⟩ c4
    · exact ⟨rfl, hi⟩
end PLL
