section PB
theorem iKept_mk {h H : HH} {D' w' S' L' W' K' : Nat} (hD : D' ≤ 6) (hw : w' ≤ 60) (q : h.1 22 1 = nI D' ∧ h.1 100 0 = nI D' ∧ h.1 21 6 = nI w' ∧ h.1 100 1 = nI w' ∧ h.1 22 2 = h.1 100 2 ∧ isN (h.1 100 2) 0 99 ∧ h.1 100 3 = nI S' ∧ h.1 100 4 = nI L' ∧ h.1 100 5 = nI W' ∧ h.1 100 6 = nI K' ∧
    h.1 22 3 = h.1 99 3 ∧ h.1 22 4 = h.1 99 4 ∧ h.1 22 5 = h.1 99 5 ∧
    iLand h 22 D' 92 93 94 95 96 97 98 6 18 ∧ iSigns h 24 S' w' ∧ iLines h 29 L' 101 ∧ iWays h 31 W' D' ∧ iWorks h 36 K' ∧ iWas h 40 102) (e0 : H.1 0 6 = 1) (e1 : H.1 57 53 = 1) (f1 : ∀ r, 21 ≤ r → r ≤ 40 → H.1 r = h.1 r) (f2 : ∀ r, 92 ≤ r → r ≤ 102 → H.1 r = h.1 r) (f3 : ∀ r, 66 ≤ r → r ≤ 78 → H.1 r = h.1 r) (f4 : ∀ r, 80 ≤ r → r ≤ 86 → H.1 r = h.1 r) : iKept H S' L' W' K' := by
  obtain ⟨q1, q2, q3, q4, q5, q6, q7, q8, q9, q10, q11, q12, q13, q14, q15, q16, q17, q18, q19⟩ := q
  refine ⟨e0.trans e1.symm, Or.inr ⟨e1, D', w', S', L', W', K', hD, hw, Nat.le_refl _, Nat.le_refl _, Nat.le_refl _, Nat.le_refl _, ?_⟩⟩
  rw [f1 22 (by omega) (by omega), f1 21 (by omega) (by omega), f2 100 (by omega) (by omega), f2 99 (by omega) (by omega)]
  exact ⟨q1, q2, q3, q4, q5, q6, q7, q8, q9, q10, q11, q12, q13,
    iLand_cg (o := 22) ⟨f1 23 (by omega) (by omega), f2 92 (by omega) (by omega), f2 93 (by omega) (by omega), f2 94 (by omega) (by omega), f2 95 (by omega) (by omega), f2 96 (by omega) (by omega), f2 97 (by omega) (by omega), f2 98 (by omega) (by omega)⟩ q14,
    iSigns_cg (o := 24) ⟨congrFun (f1 24 (by omega) (by omega)) 4, f1 25 (by omega) (by omega), f1 26 (by omega) (by omega), f1 27 (by omega) (by omega), f1 28 (by omega) (by omega)⟩ (fun k _ => ⟨congrFun (f3 66 (by omega) (by omega)) k, congrFun (f3 67 (by omega) (by omega)) k, congrFun (f3 68 (by omega) (by omega)) k, congrFun (f3 69 (by omega) (by omega)) k, congrFun (f3 70 (by omega) (by omega)) k⟩) q15,
    iLines_cg (o := 29) ⟨congrFun (f1 29 (by omega) (by omega)) 1, f1 30 (by omega) (by omega)⟩ (fun k _ => ⟨congrFun (f3 71 (by omega) (by omega)) k, congrFun (f3 72 (by omega) (by omega)) k, congrFun (f3 73 (by omega) (by omega)) k, congrFun (f3 74 (by omega) (by omega)) k, congrFun (f3 75 (by omega) (by omega)) k, congrFun (f3 76 (by omega) (by omega)) k, congrFun (f3 77 (by omega) (by omega)) k, congrFun (f3 78 (by omega) (by omega)) k, congrFun (f2 101 (by omega) (by omega)) k⟩) q16,
    iWays_cg (o := 31) ⟨congrFun (f1 31 (by omega) (by omega)) 4, f1 32 (by omega) (by omega), f1 33 (by omega) (by omega), f1 34 (by omega) (by omega), f1 35 (by omega) (by omega)⟩ (fun k _ => ⟨congrFun (f4 80 (by omega) (by omega)) k, congrFun (f4 81 (by omega) (by omega)) k, congrFun (f4 82 (by omega) (by omega)) k, congrFun (f4 83 (by omega) (by omega)) k⟩) q17,
    iWorks_cg (o := 36) ⟨congrFun (f1 36 (by omega) (by omega)) 3, f1 37 (by omega) (by omega), f1 38 (by omega) (by omega), f1 39 (by omega) (by omega)⟩ (fun k _ => ⟨congrFun (f4 84 (by omega) (by omega)) k, congrFun (f4 85 (by omega) (by omega)) k, congrFun (f4 86 (by omega) (by omega)) k⟩) q18,
    iWas_cg ⟨f1 40 (by omega) (by omega), f2 102 (by omega) (by omega)⟩ q19⟩
set_option maxHeartbeats 4000000 in
theorem pp_back : PP_back := by
  intro X h hi
  obtain ⟨D, w, S, L, W, K, ⟨hm1, bk, hb, hb1, hb2⟩, hc, hl, hs, hn, hw, hk, ha, hx, hh, hp⟩ := id hi
  obtain ⟨hD6, hw60, hD, hD', hwk, hwk', hwg, hwg', hpd, hln, her, hS, hL, hW, hK⟩ := id hc
  obtain ⟨p06, pk⟩ := id hp
  have d10 : ∀ h' : HH, h'.1 57 54 = nI bk → (h'.1 57 54 = 10 ↔ bk = 10) := fun h' e => eqN e (show (10 : Int32) = nI 10 from rfl) (by omega) (by omega)
  refine (FC_back_0 (FC_back_1 (FC_back_4 (FC_back_6 (fun c6 => (FC_back_15 (FC_back_16 (FC_back_19 (fun c19 => (FC_back_28 (FC_back_29 (FC_back_32 (FC_back_33 (FC_back_36 (Nat.le_of_ble_eq_true rfl) (St_copy_1 (fun H36 f36 c36 => (FC_back_39 (FC_back_40 (FC_back_41 (FC_back_44 (FC_back_45 (FC_back_46 (FC_back_49 (FC_back_50 (FC_back_51 (FC_back_54 (FC_back_57 (Nat.le_of_ble_eq_true rfl) (FC_done_c (FC_back_60 ?_))))))))))))))))))))) (fun c19 => (FC_back_22 (FC_back_23 (FC_back_24 (Nat.le_of_ble_eq_true rfl) (FC_refuse_c (FC_back_27 ?_)))))))))) (fun c6 => (FC_back_9 (FC_back_10 (FC_back_11 (Nat.le_of_ble_eq_true rfl) (FC_refuse_c (FC_back_14 ?_))))))))))
  · have b10 : bk < 10 := (ltN hb1 (show (10 : Int32) = nI 10 from rfl) (by omega) (by omega)).mp c6
    rcases pk with pk | ⟨pk, D', w', S', L', W', K', u1, u2, u3, u4, u5, u6, qq⟩
    · exact absurd (p06.trans pk) c19
    have q := qq
    obtain ⟨q1, q2, q3, q4, q5, q6, q7, q8, q9, q10, q11, q12, q13, q14, q15, q16, q17, q18, q19⟩ := q
    generalize eC : pI (pI H36 0 7 _) 0 8 0 = Hc
    have fc : ∀ r, r = 57 ∨ 20 < r → Hc.1 r = h.1 r := fun r r1 => by rw [← eC, pI_r (by omega), pI_r (by omega), f36 r (by omega)]
    have fd : ∀ r, r ≠ 0 → Hc.1 r = H36.1 r := fun r r0 => by rw [← eC, pI_r r0, pI_r r0]
    refine (FM_back_0 (FM_back_1 (FM_back_4 (FM_back_6 (fun m6 => (FM_back_15 (FM_back_16 (FM_back_19 (fun m19 => (FM_back_28 (FM_back_29 (FM_back_30 (FM_back_33 (FM_back_34 (FM_back_35 (FM_back_38 (FM_back_39 (FM_back_40 (Nat.le_of_ble_eq_true rfl) ?_)))))))))) (fun m19 => (FM_back_22 (FM_back_23 (FM_back_24 (Nat.le_of_ble_eq_true rfl) (FM_refused_c (FM_back_27 ?_)))))))))) (fun m6 => (FM_back_9 (FM_back_10 (FM_back_11 (Nat.le_of_ble_eq_true rfl) (FM_refused_c (FM_back_14 ?_))))))))))
    · generalize eB : pI Hc 57 54 _ = Hb
      refine FM_lay_c (w := 1) (by omega) rfl (fun Hl lp => ?_)
      obtain ⟨lf, lr1, lr2, lr3, lr4⟩ := lp
      have fb : ∀ r, r ≠ 57 → Hb.1 r = Hc.1 r := fun r r0 => by rw [← eB, pI_r r0]
      refine (FM_back_43 (FM_back_44 (FM_back_45 (FM_back_48 (FM_back_49n (show (0 : Int32) = nI 0 from rfl) (by omega) (FM_back_50 (FM_back_53 (FM_back_54 (FM_back_55 (FM_back_58 (FM_back_59n (show (1 : Int32) = nI 1 from rfl) (by omega) (FM_back_60 (FM_back_63 (FM_back_64 (FM_back_65 (FM_back_68 (FM_back_69n (show (2 : Int32) = nI 2 from rfl) (by omega) (FM_back_70 (FM_back_73 (FM_back_74 (FM_back_75 (FM_back_78 (FM_back_79n (show (3 : Int32) = nI 3 from rfl) (by omega) (FM_back_80 (FM_back_83 (FM_back_84 (FM_back_85 (FM_back_88 (FM_back_89n (show (4 : Int32) = nI 4 from rfl) (by omega) (FM_back_90 (FM_back_93 (FM_back_94 (FM_back_95 (FM_back_98 (FM_back_99n (show (5 : Int32) = nI 5 from rfl) (by omega) (FM_back_100 (FM_back_103 (FM_back_104 (FM_back_105 (FM_back_108 (FM_back_110n (show (6 : Int32) = nI 6 from rfl) (by omega) (FM_back_111 (FM_back_114 (FM_back_115 ?_))))))))))))))))))))))))))))))))))))))))))))
      generalize e3 : pI (pI (pI (pI (pI (pI (pI Hl 57 1 _) 57 10 _) 57 11 _) 57 15 _) 57 21 _) 57 31 _) 57 36 _ = H3
      refine FM_back_l116 (h := H3) (fun H4 r4 => ?_) 12 0 H3 (by omega) (rowc_0 _ _ _)
      refine (FM_back_140 (FM_back_141 ?_))
      refine FM_back_l142 (h := H4) (fun H5 r5 => ?_) 360 0 H4 (by omega) (rowc_0 _ _ _)
      refine (FM_back_167 (FM_back_168 (FM_back_169 (FM_back_172 (Nat.le_of_ble_eq_true rfl) (FM_done_c (FM_back_175 ?_))))))
      generalize eF : pI H5 57 0 0 = Hf
      have g3 : ∀ r, r ≠ 57 → H3.1 r = Hl.1 r := fun r r0 => by rw [← e3, pI_r r0, pI_r r0, pI_r r0, pI_r r0, pI_r r0, pI_r r0, pI_r r0]
      have fL : ∀ r, r ≠ 57 → r ≠ 65 → r ≠ 79 → Hf.1 r = Hl.1 r := fun r a b c => by rw [← eF, pI_r a, r5.1 r b, r4.1 r c, g3 r a]
      have fA : ∀ r, r < 57 ∨ 65 < r → r ≠ 79 → Hf.1 r = Hc.1 r := fun r a b => by rw [fL r (by omega) (by omega) b, lf r (by omega), fb r (by omega)]
      have fx : ∀ r, (20 < r ∧ r < 57) ∨ 65 < r → r ≠ 79 → Hf.1 r = h.1 r := fun r a b => by rw [fA r (by omega) b, fc r (by omega)]
      have fC : ∀ r, r < 57 → r ≠ 0 → Hf.1 r = H36.1 r := fun r a b => by rw [fA r (by omega) (by omega), fd r b]
      have fl : ∀ r, 57 < r → r < 65 → Hf.1 r = Hl.1 r := fun r a b => fL r (by omega) (by omega) (by omega)
      have b9 : ∀ r, 65 < r → Hb.1 r = h.1 r := fun r a => by rw [fb r (by omega), fc r (by omega)]
      have l9 : ∀ r, 65 < r → Hl.1 r = h.1 r := fun r a => by rw [lf r (by omega), b9 r a]
      have b57 : ∀ j, j ≠ 54 → Hb.1 57 j = h.1 57 j := fun j a => by
        rw [← eB]; simp only [pI1, true_and]; rw [if_neg a, fc 57 (by omega)]
      have b54 : Hb.1 57 54 = nI (bk + 1) := by
        rw [← eB]; simp only [pI1, true_and, if_pos]; rw [fc 57 (by omega), hb2, nI_1]
      have f57 : ∀ j, j ≠ 0 → Hf.1 57 j = H3.1 57 j := fun j a => by
        rw [← eF]; simp only [pI1, true_and]; rw [if_neg a, r5.1 57 (by omega), r4.1 57 (by omega)]
      have f79 : ∀ y, y < 12 → Hf.1 79 y = h.1 101 y := fun y hy => by rw [← eF, pI_r (by omega), r5.1 79 (by omega), r4.2, if_pos hy, g3 101 (by omega), l9 101 (by omega)]
      have f65 : ∀ y, y < 360 → Hf.1 65 y = h.1 102 y := fun y hy => by rw [← eF, pI_r (by omega), r5.2, if_pos hy, r4.1 102 (by omega), g3 102 (by omega), l9 102 (by omega)]
      have l100 := l9 100 (by omega)
      have x1 : Hf.1 57 1 = h.1 100 0 := by rw [f57 _ (by omega), ← e3]; simp [pI1, l100]
      have x10 : H3.1 57 10 = h.1 100 1 := by rw [← e3]; simp [pI1, l100]
      have x10' : Hf.1 57 10 = h.1 100 1 := by rw [f57 _ (by omega), x10]
      have x11 : Hf.1 57 11 = h.1 100 2 := by rw [f57 _ (by omega), ← e3]; simp [pI1, l100]
      have x15 : Hf.1 57 15 = h.1 100 3 := by rw [f57 _ (by omega), ← e3]; simp [pI1, l100]
      have x21 : Hf.1 57 21 = h.1 100 4 := by rw [f57 _ (by omega), ← e3]; simp [pI1, l100]
      have x31 : Hf.1 57 31 = h.1 100 5 := by rw [f57 _ (by omega), ← e3]; simp [pI1, l100]
      have x36 : Hf.1 57 36 = h.1 100 6 := by rw [f57 _ (by omega), ← e3]; simp [pI1, l100]
      have x12 : Hf.1 57 12 = h.1 99 3 := by rw [f57 _ (by omega), ← e3]; simp [pI1]; rw [lr3.1, b9 99 (by omega)]
      have x13 : Hf.1 57 13 = h.1 99 4 := by rw [f57 _ (by omega), ← e3]; simp [pI1]; rw [lr3.2.1, b9 99 (by omega)]
      have x14 : Hf.1 57 14 = h.1 99 5 := by rw [f57 _ (by omega), ← e3]; simp [pI1]; rw [lr3.2.2, b9 99 (by omega)]
      have x53 : Hf.1 57 53 = h.1 57 53 := by rw [f57 _ (by omega), ← e3]; simp [pI1]; rw [lr4 53 (by omega), b57 53 (by omega)]
      have x54 : Hf.1 57 54 = nI (bk + 1) := by rw [f57 _ (by omega), ← e3]; simp [pI1]; rw [lr4 54 (by omega), b54]
      have x59 : Hf.1 57 59 = h.1 57 59 := by rw [f57 _ (by omega), ← e3]; simp [pI1]; rw [lr4 59 (by omega), b57 59 (by omega)]
      have x0 : Hf.1 57 0 = 0 := by rw [← eF]; simp [pI1]
      have y0 : Hf.1 0 8 = 0 ∧ Hf.1 0 7 = nI (bk + 1) ∧ Hf.1 0 6 = h.1 0 6 := by
        rw [fA 0 (by omega) (by omega), ← eC]
        simp [pI1, f36 0 (by omega), hb1, nI_1]
      obtain ⟨⟨l1, l2, l3, l4, l5, l6⟩, ⟨s1, s2, s3, s4, s5⟩, ⟨n1, n2⟩, ⟨w1, w2, w3, w4, w5⟩, ⟨k1, k2, k3, k4⟩, o1, o2⟩ := c36
      have o2' : H36.1 1 6 = nI w' := o2.trans q3
      refine ⟨?_, D', w', S', L', W', K', ⟨by rw [y0.1, x0], bk + 1, by omega, y0.2.1, x54⟩, ⟨u1, u2, ?_, x1.trans q2, ?_, x10'.trans q4, ?_, by rw [x11]; exact q6, ?_, ?_, ?_, x15.trans q7, x21.trans q8, x31.trans q9, x36.trans q10⟩, ?_, ?_, ?_, ?_, ?_, ?_, ?_, ?_, ?_⟩
      · rw [r5.1 57 (by omega), r4.1 57 (by omega), x10, q4]
        exact o2'
      · rw [fC 2 (by omega) (by omega)]; exact l2.trans q1
      · rw [fC 1 (by omega) (by omega)]; exact o2'
      · rw [fC 2 (by omega) (by omega), x11]; exact l3.trans q5
      · rw [fC 2 (by omega) (by omega), x12]; exact l4.trans q11
      · rw [fC 2 (by omega) (by omega), x13]; exact l5.trans q12
      · rw [fC 2 (by omega) (by omega), x14]; exact l6.trans q13
      · refine iLand_mv (o := 22) (S := 92) (P := 93) (E := 94) (C := 95) (B := 96) (L := 97) (X := 98) (u := 6) (v := 18) (fun y hy => ?_) (fun y hy => ?_) (fun y hy => ?_) u1 q14
        · rw [fC (2 + 1) (by omega) (by omega)]; exact l1 y hy
        · rw [fl 58 (by omega) (by omega), fl 59 (by omega) (by omega), fl 62 (by omega) (by omega), Nat.zero_add, ← b9 92 (by omega), ← b9 93 (by omega), ← b9 96 (by omega)]
          exact lr1 y hy
        · rw [fl 60 (by omega) (by omega), fl 61 (by omega) (by omega), fl 63 (by omega) (by omega), fl 64 (by omega) (by omega), Nat.zero_add, ← b9 94 (by omega), ← b9 95 (by omega), ← b9 97 (by omega), ← b9 98 (by omega)]
          exact lr2 y hy
      · refine iSigns_mv (o := 24) ?_ (fun y hy => ?_) (fun y hy => ?_) (fun r a b => fx r (by omega) (by omega)) q15
        · rw [fC 4 (by omega) (by omega)]; exact s5
        · rw [fC (4 + 1) (by omega) (by omega), fC (4 + 2) (by omega) (by omega), fC (4 + 3) (by omega) (by omega)]; exact ⟨s1 y hy, s2 y hy, s3 y hy⟩
        · rw [fC (4 + 4) (by omega) (by omega)]; exact s4 y hy
      · refine iLines_mv (o := 29) ?_ (fun y hy => ?_) (fun r a b => fx r (by omega) (by omega)) (fun y hy => f79 y hy) q16
        · rw [fC 9 (by omega) (by omega)]; exact n2
        · rw [fC (9 + 1) (by omega) (by omega)]; exact n1 y hy
      · refine iWays_mv (o := 31) ?_ (fun y hy => ?_) (fun r a b => fx r (by omega) (by omega)) q17
        · rw [fC 11 (by omega) (by omega)]; exact w5
        · rw [fC (11 + 1) (by omega) (by omega), fC (11 + 2) (by omega) (by omega), fC (11 + 3) (by omega) (by omega), fC (11 + 4) (by omega) (by omega)]; exact ⟨w1 y hy, w2 y hy, w3 y hy, w4 y hy⟩
      · refine iWorks_mv (o := 36) ?_ (fun y hy => ?_) (fun r a b => fx r (by omega) (by omega)) q18
        · rw [fC 16 (by omega) (by omega)]; exact k4
        · rw [fC (16 + 1) (by omega) (by omega), fC (16 + 2) (by omega) (by omega), fC (16 + 3) (by omega) (by omega)]; exact ⟨k1 y hy, k2 y hy, k3 y hy⟩
      · refine iWas_mv (a := 40) (b := 102) (fun y hy => ?_) (fun y hy => f65 y hy) q19
        rw [fC 20 (by omega) (by omega)]; exact o1 y hy
      · exact iAct_cg ⟨congrFun (fx 51 (by omega) (by omega)) 1, x59, fx 52 (by omega) (by omega), fx 103 (by omega) (by omega)⟩ hx
      · exact iSheet_cg ⟨fx 54 (by omega) (by omega), fx 55 (by omega) (by omega), fx 56 (by omega) (by omega), fx 104 (by omega) (by omega), fx 105 (by omega) (by omega), fx 106 (by omega) (by omega)⟩ hh
      · exact iKept_mk u1 u2 qq (y0.2.2.trans (p06.trans pk)) (x53.trans pk) (fun r a b => fx r (by omega) (by omega)) (fun r a b => fx r (by omega) (by omega)) (fun r a b => fx r (by omega) (by omega)) (fun r a b => fx r (by omega) (by omega))
    · exact absurd ((fc 57 (by omega) ▸ m19 : h.1 57 53 = 0)) (by rw [pk]; decide)
    · have := (d10 Hc (by rw [fc 57 (by omega)]; exact hb2)).mp m6
      omega
  · have pk0 : h.1 57 53 = 0 := by rw [← p06]; exact c19
    refine (FM_back_0 (FM_back_1 (FM_back_4 (FM_back_6 (fun m6 => (FM_back_15 (FM_back_16 (FM_back_19 (fun m19 => (FM_back_28 (FM_back_29 (FM_back_30 (FM_back_33 (FM_back_34 (FM_back_35 (FM_back_38 (FM_back_39 (FM_back_40 (Nat.le_of_ble_eq_true rfl) ?_)))))))))) (fun m19 => (FM_back_22 (FM_back_23 (FM_back_24 (Nat.le_of_ble_eq_true rfl) (FM_refused_c (FM_back_27 ?_)))))))))) (fun m6 => (FM_back_9 (FM_back_10 (FM_back_11 (Nat.le_of_ble_eq_true rfl) (FM_refused_c (FM_back_14 ?_))))))))))
    · exact absurd pk0 m19
    · exact ⟨rfl, Inv_refuse hi⟩
    · have := (d10 _ (show (pI h 0 8 3).1 57 54 = nI bk from hb2)).mp m6
      have b10 : bk < 10 := (ltN hb1 (show (10 : Int32) = nI 10 from rfl) (by omega) (by omega)).mp c6
      omega
  · have b10 : bk = 10 := by
      have : ¬ bk < 10 := fun y => c6 ((ltN hb1 (show (10 : Int32) = nI 10 from rfl) (by omega) (by omega)).mpr y)
      omega
    have e := (d10 _ (show (pI h 0 8 2).1 57 54 = nI bk from hb2)).mpr b10
    refine (FM_back_0 (FM_back_1 (FM_back_4 (FM_back_6 (fun m6 => (FM_back_15 (FM_back_16 (FM_back_19 (fun m19 => (FM_back_28 (FM_back_29 (FM_back_30 (FM_back_33 (FM_back_34 (FM_back_35 (FM_back_38 (FM_back_39 (FM_back_40 (Nat.le_of_ble_eq_true rfl) ?_)))))))))) (fun m19 => (FM_back_22 (FM_back_23 (FM_back_24 (Nat.le_of_ble_eq_true rfl) (FM_refused_c (FM_back_27 ?_)))))))))) (fun m6 => (FM_back_9 (FM_back_10 (FM_back_11 (Nat.le_of_ble_eq_true rfl) (FM_refused_c (FM_back_14 ?_))))))))))
    · exact absurd e m6
    · exact absurd e m6
    · exact ⟨rfl, Inv_refuse hi⟩
end PB
