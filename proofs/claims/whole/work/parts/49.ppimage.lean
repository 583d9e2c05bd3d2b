section MV
variable {h H : HH}
theorem iLand_mv {o D S P E C B L X u v o' S' P' E' C' B' L' X' u' v' : Nat} (e : ∀ y, y < 90 → H.1 (o' + 1) y = h.1 (o + 1) y) (e1 : ∀ y, y < 6 → H.1 S' (u' + y) = h.1 S (u + y) ∧ H.1 P' (u' + y) = h.1 P (u + y) ∧ H.1 B' (u' + y) = h.1 B (u + y)) (e2 : ∀ y, y < 18 → H.1 E' (v' + y) = h.1 E (v + y) ∧ H.1 C' (v' + y) = h.1 C (v + y) ∧ H.1 L' (v' + y) = h.1 L (v + y) ∧ H.1 X' (v' + y) = h.1 X (v + y)) (h6 : D ≤ 6) (K : iLand h o D S P E C B L X u v) : iLand H o' D S' P' E' C' B' L' X' u' v' := by
  obtain ⟨k1, k2, k3, k4⟩ := K
  refine ⟨fun d hd => ?_, fun d c hd hc => ?_, fun d hd => ?_, fun d c hd hc => ?_⟩
  · obtain ⟨a1, a2, a3⟩ := e1 d hd
    rw [a1, a2, a3, e _ (by omega), e _ (by omega), e _ (by omega)]
    exact k1 d hd
  · obtain ⟨a1, a2, a3, a4⟩ := e2 (3 * d + c) (by omega)
    rw [a1, a2, a3, a4, e _ (by omega), e _ (by omega), e _ (by omega), e _ (by omega)]
    exact k2 d c hd hc
  · obtain ⟨a1, a2, a3⟩ := e1 d (by omega)
    rw [a1, a2]; exact k3 d hd
  · obtain ⟨a1, a2, a3, a4⟩ := e2 (3 * d + c) (by omega)
    rw [a1, a2]; exact k4 d c hd hc
theorem iSigns_mv {o o' S w : Nat} (e : H.1 o' 4 = h.1 o 4) (e1 : ∀ y, y < 200 → H.1 (o' + 1) y = h.1 (o + 1) y ∧ H.1 (o' + 2) y = h.1 (o + 2) y ∧ H.1 (o' + 3) y = h.1 (o + 3) y) (e2 : ∀ y, y < 1464 → H.1 (o' + 4) y = h.1 (o + 4) y) (er : ∀ r, 66 ≤ r → r ≤ 70 → H.1 r = h.1 r) (K : iSigns h o S w) : iSigns H o' S w := by
  obtain ⟨k1, k2, k3, k4⟩ := K
  have hp : ∀ k, plc H k = plc h k := fun k => plc_cg ⟨by rw [er 66 (by omega) (by omega)], by rw [er 67 (by omega) (by omega)], by rw [er 68 (by omega) (by omega)]⟩
  refine ⟨k1, e.trans k2, fun k hk => ?_, fun p hp' => ?_⟩
  · obtain ⟨a1, a2, a3⟩ := e1 k (by omega)
    rw [a1, a2, a3, er 66 (by omega) (by omega), er 67 (by omega) (by omega), er 68 (by omega) (by omega), er 69 (by omega) (by omega), er 70 (by omega) (by omega), hp, lst_cg k _ (fun j _ => hp j)]
    exact k3 k hk
  · rw [e2 p hp', lst_cg S p (fun j _ => hp j)]
    exact k4 p hp'
theorem iLines_mv {o o' L en en' : Nat} (e : H.1 o' 1 = h.1 o 1) (e1 : ∀ y, y < 108 → H.1 (o' + 1) y = h.1 (o + 1) y) (er : ∀ r, 71 ≤ r → r ≤ 78 → H.1 r = h.1 r) (e2 : ∀ y, y < 12 → H.1 en' y = h.1 en y) (K : iLines h o L en) : iLines H o' L en' := by
  obtain ⟨k1, k2, k3⟩ := K
  refine ⟨k1, e.trans k2, fun l hl => ?_⟩
  rw [er 71 (by omega) (by omega), er 72 (by omega) (by omega), er 73 (by omega) (by omega), er 74 (by omega) (by omega), er 75 (by omega) (by omega), er 76 (by omega) (by omega), er 77 (by omega) (by omega), er 78 (by omega) (by omega), e2 l (by omega), e1 _ (by omega), e1 _ (by omega), e1 _ (by omega), e1 _ (by omega), e1 _ (by omega), e1 _ (by omega), e1 _ (by omega), e1 _ (by omega), e1 _ (by omega)]
  exact k3 l hl
theorem iWays_mv {o o' W D : Nat} (e : H.1 o' 4 = h.1 o 4) (e1 : ∀ y, y < 12 → H.1 (o' + 1) y = h.1 (o + 1) y ∧ H.1 (o' + 2) y = h.1 (o + 2) y ∧ H.1 (o' + 3) y = h.1 (o + 3) y ∧ H.1 (o' + 4) y = h.1 (o + 4) y) (er : ∀ r, 80 ≤ r → r ≤ 83 → H.1 r = h.1 r) (K : iWays h o W D) : iWays H o' W D := by
  obtain ⟨k1, k2, k3⟩ := K
  refine ⟨k1, e.trans k2, fun l hl => ?_⟩
  obtain ⟨a1, a2, a3, a4⟩ := e1 l (by omega)
  rw [a1, a2, a3, a4, er 80 (by omega) (by omega), er 81 (by omega) (by omega), er 82 (by omega) (by omega), er 83 (by omega) (by omega)]
  exact k3 l hl
theorem iWorks_mv {o o' K : Nat} (e : H.1 o' 3 = h.1 o 3) (e1 : ∀ y, y < 8 → H.1 (o' + 1) y = h.1 (o + 1) y ∧ H.1 (o' + 2) y = h.1 (o + 2) y ∧ H.1 (o' + 3) y = h.1 (o + 3) y) (er : ∀ r, 84 ≤ r → r ≤ 86 → H.1 r = h.1 r) (k : iWorks h o K) : iWorks H o' K := by
  obtain ⟨k1, k2, k3⟩ := k
  refine ⟨k1, e.trans k2, fun l hl => ?_⟩
  obtain ⟨a1, a2, a3⟩ := e1 l (by omega)
  rw [a1, a2, a3, er 84 (by omega) (by omega), er 85 (by omega) (by omega), er 86 (by omega) (by omega)]
  exact k3 l hl
theorem iWas_mv {a b a' b' : Nat} (e1 : ∀ y, y < 360 → H.1 a' y = h.1 a y) (e2 : ∀ y, y < 360 → H.1 b' y = h.1 b y) (k : iWas h a b) : iWas H a' b' := fun y hy => by rw [e1 y hy, e2 y hy]; exact k y hy
end MV
section PI
set_option maxHeartbeats 4000000 in
theorem pp_image : PP_image := by
  intro X h hi
  obtain ⟨D, w, S, L, W, K, ⟨hm1, bk, hb, hb1, hb2⟩, hc, hl, hs, hn, hw, hk, ha, hx, hh, hp⟩ := id hi
  obtain ⟨hD6, hw60, hD, hD', hwk, hwk', hwg, hwg', hpd, hln, her, hS, hL, hW, hK⟩ := id hc
  refine (FC_image_0 (FC_image_1 (FC_image_4 (FC_image_5 (FC_image_8 (Nat.le_of_ble_eq_true rfl) (St_copy_21 (fun H8 f8 c8 => (FC_image_11 (FC_image_12 (FC_image_13 rfl rfl (FC_image_16 (FC_image_17 (FC_image_18 (Nat.le_of_ble_eq_true rfl) (FC_done_c (FC_image_21 ?_)))))))))))))))
  generalize eC : pI (pI H8 0 6 1) 0 8 0 = Hc
  have fc : ∀ r, r ≠ 0 → r < 21 ∨ 40 < r → Hc.1 r = h.1 r := fun r r0 r1 => by rw [← eC, pI_r r0, pI_r r0, f8 r r1]
  have fd : ∀ r, r ≠ 0 → Hc.1 r = H8.1 r := fun r r0 => by rw [← eC, pI_r r0, pI_r r0]
  refine (FM_image_0 (FM_image_1 (FM_image_2 (Nat.le_of_ble_eq_true rfl) ?_)))
  refine FM_keep_c (w := 1) (by omega) rfl (fun Hk kp => ?_)
  obtain ⟨kf, kr1, kr2, kr3, kr4, kr5, kr6⟩ := kp
  refine (FM_image_5 (FM_image_6 (FM_image_9 (FM_image_10 (FM_image_11 (FM_image_14n (show (0 : Int32) = nI 0 from rfl) (by omega) (FM_image_15 (FM_image_16 (FM_image_19 (FM_image_20 (FM_image_21 (FM_image_24n (show (1 : Int32) = nI 1 from rfl) (by omega) (FM_image_25 (FM_image_26 (FM_image_29 (FM_image_30 (FM_image_31 (FM_image_34n (show (2 : Int32) = nI 2 from rfl) (by omega) (FM_image_35 (FM_image_36 (FM_image_39 (FM_image_40 (FM_image_41 (FM_image_44n (show (3 : Int32) = nI 3 from rfl) (by omega) (FM_image_45 (FM_image_46 (FM_image_49 (FM_image_50 (FM_image_51 (FM_image_54n (show (4 : Int32) = nI 4 from rfl) (by omega) (FM_image_55 (FM_image_56 (FM_image_59 (FM_image_60 (FM_image_61 (FM_image_64n (show (5 : Int32) = nI 5 from rfl) (by omega) (FM_image_65 (FM_image_66 (FM_image_69 (FM_image_71 (FM_image_72 (FM_image_75n (show (6 : Int32) = nI 6 from rfl) (by omega) (FM_image_76 (FM_image_77 ?_))))))))))))))))))))))))))))))))))))))))))))
  generalize e3 : pI (pI (pI (pI (pI (pI (pI Hk 100 0 _) 100 1 _) 100 2 _) 100 3 _) 100 4 _) 100 5 _) 100 6 _ = H3
  refine FM_image_l78 (h := H3) (fun H4 r4 => ?_) 12 0 H3 (by omega) (rowc_0 _ _ _)
  refine (FM_image_102 (FM_image_103 ?_))
  refine FM_image_l104 (h := H4) (fun H5 r5 => ?_) 360 0 H4 (by omega) (rowc_0 _ _ _)
  refine (FM_image_129 (FM_image_130 (FM_image_131 rfl rfl (FM_image_134 (FM_image_135 (FM_image_136 (Nat.le_of_ble_eq_true rfl) (FM_done_c (FM_image_139 ?_))))))))
  refine ⟨rfl, ?_⟩
  generalize eF : pI (pI H5 57 53 1) 57 0 0 = Hf
  have g3 : ∀ r, r ≠ 100 → H3.1 r = Hk.1 r := fun r r0 => by rw [← e3, pI_r r0, pI_r r0, pI_r r0, pI_r r0, pI_r r0, pI_r r0, pI_r r0]
  have k57 : ∀ j, Hk.1 57 j = h.1 57 j := fun j => by rw [kf 57 (by omega), fc 57 (by omega) (by omega)]
  have ff : ∀ r, r ≠ 57 → r ≠ 102 → r ≠ 101 → r ≠ 100 → Hf.1 r = Hk.1 r := fun r a b c d => by rw [← eF, pI_r a, pI_r a, r5.1 r b, r4.1 r c, g3 r d]
  have fx : ∀ r, r ≠ 0 → r ≠ 57 → (r < 21 ∨ 40 < r) → (r < 92 ∨ 102 < r) → Hf.1 r = h.1 r := fun r a b c d => by rw [ff r b (by omega) (by omega) (by omega), kf r (by omega), fc r a c]
  have fC : ∀ r, r < 57 → r ≠ 0 → Hf.1 r = H8.1 r := fun r a b => by rw [ff r (by omega) (by omega) (by omega) (by omega), kf r (by omega), fd r b]
  have f57 : ∀ j, j ≠ 0 → j ≠ 53 → Hf.1 57 j = h.1 57 j := fun j a b => by
    rw [← eF]
    simp only [pI1, true_and]
    rw [if_neg a, if_neg b, r5.1 57 (by omega), r4.1 57 (by omega), g3 57 (by omega), k57]
  have f100 : ∀ j, Hf.1 100 j = H3.1 100 j := fun j => by rw [← eF, pI_r (by omega), pI_r (by omega), r5.1 100 (by omega), r4.1 100 (by omega)]
  have f0 : Hf.1 0 6 = 1 ∧ Hf.1 0 8 = 0 ∧ Hf.1 0 7 = h.1 0 7 := by
    rw [ff 0 (by omega) (by omega) (by omega) (by omega), kf 0 (by omega), ← eC]
    simp [pI1, f8 0 (by omega)]
  have f101 : ∀ y, y < 12 → Hf.1 101 y = h.1 79 y := fun y hy => by rw [← eF, pI_r (by omega), pI_r (by omega), r5.1 101 (by omega), r4.2, if_pos hy, g3 79 (by omega), kf 79 (by omega), fc 79 (by omega) (by omega)]
  have f102 : ∀ y, y < 360 → Hf.1 102 y = h.1 65 y := fun y hy => by rw [← eF, pI_r (by omega), pI_r (by omega), r5.2, if_pos hy, r4.1 65 (by omega), g3 65 (by omega), kf 65 (by omega), fc 65 (by omega) (by omega)]
  have fk : ∀ r, 92 ≤ r → r ≤ 99 → Hf.1 r = Hk.1 r := fun r a b => ff r (by omega) (by omega) (by omega) (by omega)
  have c57 : ∀ r, 58 ≤ r → r ≤ 64 → Hc.1 r = h.1 r := fun r a b => fc r (by omega) (by omega)
  obtain ⟨⟨l1, l2, l3, l4, l5, l6⟩, ⟨s1, s2, s3, s4, s5⟩, ⟨n1, n2⟩, ⟨w1, w2, w3, w4, w5⟩, ⟨k1, k2, k3, k4⟩, o1, o2⟩ := c8
  refine ⟨D, w, S, L, W, K, ⟨?_, bk, hb, by rw [f0.2.2, hb1], by rw [f57 54 (by omega) (by omega), hb2]⟩, iCnt_cg ⟨?_, ?_, ?_, ?_, ?_, ?_, ?_, ?_, ?_, ?_, ?_, ?_, ?_, ?_, ?_, ?_⟩ hc, iLand_cg ⟨?_, ?_, ?_, ?_, ?_, ?_, ?_, ?_⟩ hl, iSigns_cg ⟨?_, ?_, ?_, ?_, ?_⟩ (fun k _ => ⟨?_, ?_, ?_, ?_, ?_⟩) hs, iLines_cg ⟨?_, ?_⟩ (fun k _ => ⟨?_, ?_, ?_, ?_, ?_, ?_, ?_, ?_, ?_⟩) hn, iWays_cg ⟨?_, ?_, ?_, ?_, ?_⟩ (fun k _ => ⟨?_, ?_, ?_, ?_⟩) hw, iWorks_cg ⟨?_, ?_, ?_, ?_⟩ (fun k _ => ⟨?_, ?_, ?_⟩) hk, iWas_cg ⟨?_, ?_⟩ ha, iAct_cg ⟨?_, ?_, ?_, ?_⟩ hx, iSheet_cg ⟨?_, ?_, ?_, ?_, ?_, ?_⟩ hh, ?_⟩
  · rw [f0.2.1, ← eF]; simp [pI1]
  all_goals first | exact fx _ (by omega) (by omega) (by omega) (by omega) | exact congrFun (fx _ (by omega) (by omega) (by omega) (by omega)) _ | exact f57 _ (by omega) (by omega) | skip
  refine ⟨?_, Or.inr ⟨?_, D, w, S, L, W, K, hD6, hw60, Nat.le_refl _, Nat.le_refl _, Nat.le_refl _, Nat.le_refl _, ?_, ?_, ?_, ?_, ?_, ?_, ?_, ?_, ?_, ?_, ?_, ?_, ?_, ?_, ?_, ?_, ?_, ?_, ?_⟩⟩
  · rw [f0.1, ← eF]; simp [pI1]
  · rw [← eF]; simp [pI1]
  · rw [fC 22 (by omega) (by omega)]; exact l2.trans hD
  · rw [f100, ← e3]; simp [pI1, k57, hD']
  · rw [fC 21 (by omega) (by omega)]; exact o2.trans hwk
  · rw [f100, ← e3]; simp [pI1, k57, hwk']
  · rw [fC 22 (by omega) (by omega), f100, ← e3]; simp [pI1, k57]; exact l3.trans hwg
  · rw [f100, ← e3]; simp [pI1, k57]; exact hwg'
  · rw [f100, ← e3]; simp [pI1, k57, hS]
  · rw [f100, ← e3]; simp [pI1, k57, hL]
  · rw [f100, ← e3]; simp [pI1, k57, hW]
  · rw [f100, ← e3]; simp [pI1, k57, hK]
  · rw [fC 22 (by omega) (by omega), fk 99 (by omega) (by omega)]; exact (l4.trans hpd).trans ((congrFun (fc 57 (by omega) (by omega)) 12).symm.trans kr5.1.symm)
  · rw [fC 22 (by omega) (by omega), fk 99 (by omega) (by omega)]; exact (l5.trans hln).trans ((congrFun (fc 57 (by omega) (by omega)) 13).symm.trans kr5.2.1.symm)
  · rw [fC 22 (by omega) (by omega), fk 99 (by omega) (by omega)]; exact (l6.trans her).trans ((congrFun (fc 57 (by omega) (by omega)) 14).symm.trans kr5.2.2.symm)
  · refine iLand_mv (o := 2) (S := 58) (P := 59) (E := 60) (C := 61) (B := 62) (L := 63) (X := 64) (u := 0) (v := 0) (fun y hy => ?_) (fun y hy => ?_) (fun y hy => ?_) hD6 hl
    · rw [fC (22 + 1) (by omega) (by omega)]; exact l1 y hy
    · rw [fk 92 (by omega) (by omega), fk 93 (by omega) (by omega), fk 96 (by omega) (by omega), ← c57 58 (by omega) (by omega), ← c57 59 (by omega) (by omega), ← c57 62 (by omega) (by omega), Nat.zero_add]
      exact kr1 y hy
    · rw [fk 94 (by omega) (by omega), fk 95 (by omega) (by omega), fk 97 (by omega) (by omega), fk 98 (by omega) (by omega), ← c57 60 (by omega) (by omega), ← c57 61 (by omega) (by omega), ← c57 63 (by omega) (by omega), ← c57 64 (by omega) (by omega), Nat.zero_add]
      exact kr3 y hy
  · refine iSigns_mv (o := 4) ?_ (fun y hy => ?_) (fun y hy => ?_) (fun r a b => fx r (by omega) (by omega) (by omega) (by omega)) hs
    · rw [fC 24 (by omega) (by omega)]; exact s5
    · rw [fC (24 + 1) (by omega) (by omega), fC (24 + 2) (by omega) (by omega), fC (24 + 3) (by omega) (by omega)]; exact ⟨s1 y hy, s2 y hy, s3 y hy⟩
    · rw [fC (24 + 4) (by omega) (by omega)]; exact s4 y hy
  · refine iLines_mv (o := 9) ?_ (fun y hy => ?_) (fun r a b => fx r (by omega) (by omega) (by omega) (by omega)) (fun y hy => f101 y hy) hn
    · rw [fC 29 (by omega) (by omega)]; exact n2
    · rw [fC (29 + 1) (by omega) (by omega)]; exact n1 y hy
  · refine iWays_mv (o := 11) ?_ (fun y hy => ?_) (fun r a b => fx r (by omega) (by omega) (by omega) (by omega)) hw
    · rw [fC 31 (by omega) (by omega)]; exact w5
    · rw [fC (31 + 1) (by omega) (by omega), fC (31 + 2) (by omega) (by omega), fC (31 + 3) (by omega) (by omega), fC (31 + 4) (by omega) (by omega)]; exact ⟨w1 y hy, w2 y hy, w3 y hy, w4 y hy⟩
  · refine iWorks_mv (o := 16) ?_ (fun y hy => ?_) (fun r a b => fx r (by omega) (by omega) (by omega) (by omega)) hk
    · rw [fC 36 (by omega) (by omega)]; exact k4
    · rw [fC (36 + 1) (by omega) (by omega), fC (36 + 2) (by omega) (by omega), fC (36 + 3) (by omega) (by omega)]; exact ⟨k1 y hy, k2 y hy, k3 y hy⟩
  · refine iWas_mv (a := 20) (b := 65) (fun y hy => ?_) (fun y hy => f102 y hy) ha
    rw [fC 40 (by omega) (by omega)]; exact o1 y hy
end PI
