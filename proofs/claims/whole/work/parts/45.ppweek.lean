section PW
theorem iSigns_w {h : HH} {o S w w' : Nat} (hw : w ≤ w') (H : iSigns h o S w) : iSigns h o S w' := by
  obtain ⟨h1, h2, h3, h4⟩ := H
  refine ⟨h1, h2, fun k hk => ?_, h4⟩
  obtain ⟨a1, a2, a3, a4, a5⟩ := h3 k hk
  refine ⟨a1, a2, a3, ?_, a5⟩
  obtain ⟨j, j1, j2, j3⟩ := a4
  exact ⟨j, j1, by omega, j3⟩
theorem iLand_of {h : HH} {s : EC} {D : Nat} (e1 : ∀ y, h.1 3 y = s.1 y) (e2 : ∀ x y i, ixM x y = some i → h.1 x y = s.1 i) (hk : ∀ d, d < D → eOk s d) (hD : D ≤ 6) : iLand h 2 D 58 59 60 61 62 63 64 0 0 := by
  have e1' : ∀ y, h.1 (2 + 1) y = s.1 y := e1
  refine ⟨fun d hd => ?_, fun d c hd hc => ?_, fun d hd => ?_, fun d c hd hc => ?_⟩
  · simp only [Nat.zero_add, e1']
    rw [e2 _ _ _ (ix58 hd), e2 _ _ _ (ix59 hd), e2 _ _ _ (ix62 hd)]
    exact ⟨rfl, rfl, rfl⟩
  · simp only [Nat.zero_add, e1']
    rw [e2 _ _ _ (ix60 hd hc), e2 _ _ _ (ix61 hd hc), e2 _ _ _ (ix63 hd hc), e2 _ _ _ (ix64 hd hc)]
    exact ⟨rfl, rfl, rfl, rfl⟩
  · simp only [Nat.zero_add]
    rw [e2 _ _ _ (ix58 (show d < 6 by omega)), e2 _ _ _ (ix59 (show d < 6 by omega))]
    exact ⟨(hk d hd).1, (hk d hd).2.1⟩
  · simp only [Nat.zero_add]
    rw [e2 _ _ _ (ix60 (show d < 6 by omega) hc), e2 _ _ _ (ix61 (show d < 6 by omega) hc)]
    exact (hk d hd).2.2 c hc
theorem iLand_ok {h : HH} {D d : Nat} {s : EC} (hs : s.1 = h.1 3) (H : iLand h 2 D 58 59 60 61 62 63 64 0 0) (h6 : D ≤ 6) (hd : d < D) : eOk s d := by
  obtain ⟨h1, h2, h3, h4⟩ := H
  have a := h1 d (by omega)
  have b := h3 d hd
  simp only [Nat.zero_add] at a b h2 h4
  have h2 : ∀ d c, d < 6 → c < 3 → h.1 3 (d * 15 + (2 + c)) = h.1 60 (3 * d + c) ∧ h.1 3 (d * 15 + (5 + c)) = h.1 61 (3 * d + c) ∧ h.1 3 (d * 15 + (9 + c)) = h.1 63 (3 * d + c) ∧ h.1 3 (d * 15 + (12 + c)) = h.1 64 (3 * d + c) := h2
  have a : h.1 3 (d * 15 + 0) = h.1 58 d ∧ h.1 3 (d * 15 + 1) = h.1 59 d ∧ h.1 3 (d * 15 + 8) = h.1 62 d := a
  unfold eOk
  rw [hs, a.1, a.2.1]
  refine ⟨b.1, b.2, fun c hc => ?_⟩
  rw [(h2 d c (by omega) hc).1, (h2 d c (by omega) hc).2.1]
  exact h4 d c hd hc
theorem iLand_self {h h' : HH} {D : Nat} (H : iLand h 2 D 58 59 60 61 62 63 64 0 0) (e1 : ∀ r, 58 ≤ r → r ≤ 64 → h'.1 r = h.1 r) (e2 : h'.1 57 12 = h.1 2 3) (e3 : h'.1 57 13 = h.1 2 4) (e4 : h'.1 57 14 = h.1 2 5) : sM h' (h.1 3, h.1 2 3, h.1 2 4, h.1 2 5) = h' := by
  obtain ⟨h1, h2, -, -⟩ := H
  simp only [Nat.zero_add] at h1 h2
  refine sM_self (fun d hd => ?_) (fun d c hd hc => ?_) ⟨e2, e3, e4⟩
  · obtain ⟨a1, a2, a3⟩ := h1 d hd
    rw [e1 58 (by omega) (by omega), e1 59 (by omega) (by omega), e1 62 (by omega) (by omega)]
    exact ⟨a1.symm, a2.symm, a3.symm⟩
  · obtain ⟨a1, a2, a3, a4⟩ := h2 d c hd hc
    rw [e1 60 (by omega) (by omega), e1 61 (by omega) (by omega), e1 63 (by omega) (by omega), e1 64 (by omega) (by omega)]
    exact ⟨a1.symm, a2.symm, a3.symm, a4.symm⟩
set_option maxHeartbeats 4000000 in
theorem pp_week : PP_week := by
  intro X h hi
  obtain ⟨D, w, S, L, W, K, ⟨hm1, bk, hb, hb1, hb2⟩, hc, hl, hs, hn, hw, hk, ha, hx, hh, hp⟩ := id hi
  obtain ⟨hD6, hw60, hD, hD', hwk, hwk', hwg, hwg', hpd, hln, her, hS, hL, hW, hK⟩ := id hc
  refine (FC_week_0 (FC_week_1 (FC_week_4 (FC_week_7 (FC_week_9 (fun c9 => (FC_week_18 (FC_week_19 (FC_week_20 (FC_week_23 (Nat.le_of_ble_eq_true rfl) ?_))))) (fun c9 => (FC_week_12 (FC_week_13 (FC_week_14 (Nat.le_of_ble_eq_true rfl) (FC_refuse_c (FC_week_17 ?_)))))))))))
  · have w60 : w < 60 := (ltN hwk (show (60 : Int32) = nI 60 from rfl) (by omega) (by omega)).mp c9
    have hk' : ∀ d, d < D → eOk (h.1 3, h.1 2 3, h.1 2 4, h.1 2 5) d := fun d hd => iLand_ok rfl hl hD6 hd
    have wgN : isN (h.1 2 2) 0 99 := by rw [hwg]; exact hwg'
    refine St_passWeek_s (w := w) (L := L) (S := S) (D := D) (wg := h.1 2 2) hs hn hwk w60 hD hD6 rfl rfl hk' wgN ?_
    refine (FC_week_26 (Nat.le_of_ble_eq_true rfl) (FC_done_c (FC_week_29 ?_)))
    refine (FM_week_0 (FM_week_1 (FM_week_4 (FM_week_6 (fun m6 => (FM_week_15 (FM_week_16 (FM_week_17 (FM_week_18 ?_))))) (fun m6 => (FM_week_9 (FM_week_10 (FM_week_11 (Nat.le_of_ble_eq_true rfl) (FM_refused_c (FM_week_14 ?_))))))))))
    · generalize eo : ob h S L (nI w) (-1) w (nI w) = o
      generalize es : wkS o (h.1 2 2) (h.1 3, h.1 2 3, h.1 2 4, h.1 2 5) D = sD
      generalize eH : pI (pI (sC (wkO h 20 w o D) 2 sD.1) 1 6 (nI (w + 1))) 0 8 0 = H1
      have g : sg h H1 := fun r r1 r2 => by
        rw [← eH, pI_r (by omega), pI_r (by omega), sC_row (by omega) (by omega), wkO_r (by omega)]
      have r57 : H1.1 57 = h.1 57 := by rw [← eH]; simp [pI1, pI_r, sC_row, sC_low, sM_row, sM_57, wkO_r]
      have hs1 : iSigns H1 4 S w := by rw [← eH]; exact iSigns_cg (by simp [pI1, pI_r, sC_row, sC_low, sM_row, sM_57, wkO_r]) (fun k _ => by simp [pI1, pI_r, sC_row, sC_low, sM_row, sM_57, wkO_r]) hs
      have hn1 : iLines H1 9 L 79 := by rw [← eH]; exact iLines_cg (by simp [pI1, pI_r, sC_row, sC_low, sM_row, sM_57, wkO_r]) (fun k _ => by simp [pI1, pI_r, sC_row, sC_low, sM_row, sM_57, wkO_r]) hn
      have eo1 : ob H1 S L (nI w) (-1) w (nI w) = o := by rw [← eo]; funext d; exact ob_cg g S L _ _ _ _ d
      have q := FM_week_l (X := X) (d := 54) (w := w) (L := L) (S := S) (D := D) (h := H1) (wg := h.1 2 2) (s := (h.1 3, h.1 2 3, h.1 2 4, h.1 2 5)) (Q := fun r2 h2 => sD.2 = r2 ∧ Inv h2) hs1 hn1 (by rw [r57]; exact hS) (by rw [r57]; exact hL) (by rw [r57]; exact hwk') w60 (by rw [r57]; exact hD') hD6 (by rw [r57]; exact hwg.symm) hk' wgN (fun a4 => by
        rw [eo1, es]
        refine (FM_week_76 (FM_week_77 (FM_week_78 (FM_week_81 (FM_week_82 (FM_week_83 (FM_week_86 (FM_week_87 (FM_week_88 (Nat.le_of_ble_eq_true rfl) (FM_done_c (FM_week_91 ?_)))))))))))
        refine ⟨rfl, ?_⟩
        have e10 : (sM (wkO H1 65 w o D) sD.1).1 57 10 = nI w := by rw [sM_57 (by omega), wkO_r (by omega), r57, hwk']
        rw [e10, nI_1]
        have okD : ∀ d, d < D → eOk sD.1 d := fun d hd => by rw [← es]; exact wkS_ok wgN (hk' d hd) D
        have c3 : ∀ y, (pI (pI (sM (wkO H1 65 w o D) sD.1) 57 10 (nI (w + 1))) 57 0 0).1 3 y = sD.1.1 y := fun y => by
          rw [pI_r (by omega), pI_r (by omega), sM_row (by omega), wkO_r (by omega), ← eH, pI_r (by omega), pI_r (by omega)]; exact sC_r (o := 2)
        have c58 : ∀ x y i, ixM x y = some i → (pI (pI (sM (wkO H1 65 w o D) sD.1) 57 10 (nI (w + 1))) 57 0 0).1 x y = sD.1.1 i := fun x y i e => by
          have hx : x ≠ 57 := fun z => by rw [z, ix57] at e; cases e
          rw [pI_r hx, pI_r hx, sM_g e]
        have cw : ∀ k, (wkO h 20 w o D).1 20 k = h.1 20 k ∨ True := fun _ => Or.inr trivial
        have eW : ∀ k, k < 360 → (pI (pI (sM (wkO H1 65 w o D) sD.1) 57 10 (nI (w + 1))) 57 0 0).1 20 k = (pI (pI (sM (wkO H1 65 w o D) sD.1) 57 10 (nI (w + 1))) 57 0 0).1 65 k := fun k hk => by
          rw [pI_r (by omega), pI_r (by omega), pI_r (by omega), pI_r (by omega), sM_row (by omega), sM_row (by omega), wkO_r (by omega)]
          rw [← wkO_e (h := h) (a := 20) (w := w) (o := o) (k := k) (h' := H1) (b := 65) (by rw [ha k hk, ← eH]; simp [pI1, pI_r, sC_row, sC_low, sM_row, sM_57, wkO_r]) D, ← eH]
          simp [pI1, pI_r, sC_row, sC_low, sM_row, sM_57, wkO_r]
        subst eH
        exact ⟨D, w + 1, S, L, W, K, ⟨by simp [pI1, pI_r, sC_row, sC_low, sM_row, sM_57, wkO_r], bk, hb, by simp [pI1, pI_r, sC_row, sC_low, sM_row, sM_57, wkO_r, hb1], by simp [pI1, pI_r, sC_row, sC_low, sM_row, sM_57, wkO_r, hb2]⟩, ⟨hD6, by omega, by simp [pI1, pI_r, sC_row, sC_low, sM_row, sM_57, wkO_r, sC_3, sC_4, sC_5, sM_12, sM_13, sM_14, sM_11, hD], by simp [pI1, pI_r, sC_row, sC_low, sM_row, sM_57, wkO_r, sC_3, sC_4, sC_5, sM_12, sM_13, sM_14, sM_11, hD'], by simp [pI1, pI_r, sC_row, sC_low, sM_row, sM_57, wkO_r, sC_3, sC_4, sC_5, sM_12, sM_13, sM_14, sM_11], by simp [pI1, pI_r, sC_row, sC_low, sM_row, sM_57, wkO_r, sC_3, sC_4, sC_5, sM_12, sM_13, sM_14, sM_11], by simp [pI1, pI_r, sC_row, sC_low, sM_row, sM_57, wkO_r, sC_3, sC_4, sC_5, sM_12, sM_13, sM_14, sM_11, hwg], by simp [pI1, pI_r, sC_row, sC_low, sM_row, sM_57, wkO_r, sC_3, sC_4, sC_5, sM_12, sM_13, sM_14, sM_11]; exact hwg', by simp [pI1, pI_r, sC_row, sC_low, sM_row, sM_57, wkO_r, sC_3, sC_4, sC_5, sM_12, sM_13, sM_14, sM_11], by simp [pI1, pI_r, sC_row, sC_low, sM_row, sM_57, wkO_r, sC_3, sC_4, sC_5, sM_12, sM_13, sM_14, sM_11], by simp [pI1, pI_r, sC_row, sC_low, sM_row, sM_57, wkO_r, sC_3, sC_4, sC_5, sM_12, sM_13, sM_14, sM_11], by simp [pI1, pI_r, sC_row, sC_low, sM_row, sM_57, wkO_r, sC_3, sC_4, sC_5, sM_12, sM_13, sM_14, sM_11, hS], by simp [pI1, pI_r, sC_row, sC_low, sM_row, sM_57, wkO_r, sC_3, sC_4, sC_5, sM_12, sM_13, sM_14, sM_11, hL], by simp [pI1, pI_r, sC_row, sC_low, sM_row, sM_57, wkO_r, sC_3, sC_4, sC_5, sM_12, sM_13, sM_14, sM_11, hW], by simp [pI1, pI_r, sC_row, sC_low, sM_row, sM_57, wkO_r, sC_3, sC_4, sC_5, sM_12, sM_13, sM_14, sM_11, hK]⟩, iLand_of c3 c58 okD hD6, iSigns_w (w := w) (by omega) (iSigns_cg (by simp [pI1, pI_r, sC_row, sC_low, sM_row, sM_57, wkO_r]) (fun k _ => by simp [pI1, pI_r, sC_row, sC_low, sM_row, sM_57, wkO_r]) hs), iLines_cg (by simp [pI1, pI_r, sC_row, sC_low, sM_row, sM_57, wkO_r]) (fun k _ => by simp [pI1, pI_r, sC_row, sC_low, sM_row, sM_57, wkO_r]) hn, iWays_cg (by simp [pI1, pI_r, sC_row, sC_low, sM_row, sM_57, wkO_r]) (fun k _ => by simp [pI1, pI_r, sC_row, sC_low, sM_row, sM_57, wkO_r]) hw, iWorks_cg (by simp [pI1, pI_r, sC_row, sC_low, sM_row, sM_57, wkO_r]) (fun k _ => by simp [pI1, pI_r, sC_row, sC_low, sM_row, sM_57, wkO_r]) hk, eW, iAct_cg (by simp [pI1, pI_r, sC_row, sC_low, sM_row, sM_57, wkO_r]) hx, iSheet_cg (by simp [pI1, pI_r, sC_row, sC_low, sM_row, sM_57, wkO_r]) hh, iKept_cg (Nat.le_refl _) (Nat.le_refl _) (Nat.le_refl _) (Nat.le_refl _) (by simp [pI1, pI_r, sC_row, sC_low, sM_row, sM_57, wkO_r]) (fun k _ => by simp [pI1, pI_r, sC_row, sC_low, sM_row, sM_57, wkO_r]) (fun k _ => by simp [pI1, pI_r, sC_row, sC_low, sM_row, sM_57, wkO_r]) (fun k _ => by simp [pI1, pI_r, sC_row, sC_low, sM_row, sM_57, wkO_r]) (fun k _ => by simp [pI1, pI_r, sC_row, sC_low, sM_row, sM_57, wkO_r]) hp⟩) D 0 U0 (by omega)
      simp only [wkS, wkO] at q
      rw [iLand_self hl (fun r r1 r2 => by rw [← eH]; rw [pI_r (by omega), pI_r (by omega), sC_row (by omega) (by omega), wkO_r (by omega)]) (by rw [r57]; exact hpd.symm) (by rw [r57]; exact hln.symm) (by rw [r57]; exact her.symm)] at q
      exact q
    · exfalso
      have e57 : (pI (pI (sC (wkO h 20 w (ob h S L (nI w) (-1) w (nI w)) D) 2 (wkS (ob h S L (nI w) (-1) w (nI w)) (h.1 2 2) (h.1 3, h.1 2 3, h.1 2 4, h.1 2 5) D).1) 1 6 (nI (w + 1))) 0 8 0).1 57 10 = nI w := by simp [pI1, pI_r, sC_row, sC_low, sM_row, sM_57, wkO_r, hwk']
      rw [e57] at m6
      have := (eqN rfl (show (60 : Int32) = nI 60 from rfl) (by omega) (by omega)).mp m6
      omega
  · have w60 : w = 60 := by
      have : ¬ w < 60 := fun y => c9 ((ltN hwk (show (60 : Int32) = nI 60 from rfl) (by omega) (by omega)).mpr y)
      omega
    have e57 : (pI h 0 8 2).1 57 10 = 60 := by rw [pI_r (by omega), hwk', w60]; rfl
    refine (FM_week_0 (FM_week_1 (FM_week_4 (FM_week_6 (fun m6 => (FM_week_15 (FM_week_16 (FM_week_17 (FM_week_18 ?_))))) (fun m6 => (FM_week_9 (FM_week_10 (FM_week_11 (Nat.le_of_ble_eq_true rfl) (FM_refused_c (FM_week_14 ?_))))))))))
    · exact absurd e57 m6
    · exact ⟨rfl, Inv_refuse hi⟩
end PW
