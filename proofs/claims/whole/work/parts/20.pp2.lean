section PP2
set_option maxHeartbeats 1000000 in
theorem pp_coins : PP_coins := by
  intro X h a b n hi
  obtain ⟨D, w, S, L, W, K, ⟨hm1, bk, hb, hb1, hb2⟩, hc, hl, hs, hn, hw, hk, ha, hx, hh, hp⟩ := id hi
  obtain ⟨hD6, hw60, hD, hD', hwk, hwk', hwg, hwg', hpd, hln, her, hS, hL, hW, hK⟩ := id hc
  refine FC_coins_s hD hD6 (fun j c m u1 u2 u3 e1 e2 e3 => ?_) (fun nA => ?_)
  · refine FM_coins_s (by simpa [pI1] using hD') hD6 (fun j' c' m' v1 v2 v3 f1 f2 f3 => ?_) (fun nA => absurd ⟨⟨j, u1, e1⟩, ⟨c, Nat.zero_le _, u2, e2⟩, ⟨m, Nat.zero_le _, u3, e3⟩⟩ nA)
    obtain rfl := nI_inj (e1.symm.trans f1) (by omega) (by omega)
    obtain rfl := nI_inj (e2.symm.trans f2) (by omega) (by omega)
    refine ⟨?_, ?_⟩
    · simp only [pI1]
      simp
      simpa using (hl.2.1 j c (by omega) (by omega)).2.1
    · exact ⟨D, w, S, L, W, K, ⟨by simp [pI1], bk, hb, by simp [pI1, hb1], by simp [pI1, hb2]⟩, iCnt_cg (by simp [pI1]) hc, iLand_C (j := j) (c := c) (n := n) (by omega) u2 ⟨m, Nat.zero_le _, u3, e3⟩ (fun k => by simp [pI1]) (fun k => by simp [pI1]) (by simp [pI_r]) hl, iSigns_cg (by simp [pI_r]) (fun k _ => by simp [pI_r]) hs, iLines_cg (by simp [pI_r]) (fun k _ => by simp [pI_r]) hn, iWays_cg (by simp [pI_r, pI1]) (fun k _ => by simp [pI_r]) hw, iWorks_cg (by simp [pI_r, pI1]) (fun k _ => by simp [pI_r]) hk, iWas_cg (by simp [pI_r]) ha, iAct_cg (by simp [pI_r, pI1]) hx, iSheet_cg (by simp [pI_r]) hh, iKept_cg (Nat.le_refl _) (Nat.le_refl _) (Nat.le_refl _) (Nat.le_refl _) (by simp [pI_r, pI1]) (fun k _ => by simp [pI_r]) (fun k _ => by simp [pI_r]) (fun k _ => by simp [pI_r]) (fun k _ => by simp [pI_r]) hp⟩
  · exact FM_coins_s (by simpa [pI1] using hD') hD6 (fun j' c' m' v1 v2 v3 f1 f2 f3 => absurd ⟨⟨j', v1, f1⟩, ⟨c', Nat.zero_le _, v2, f2⟩, ⟨m', Nat.zero_le _, v3, f3⟩⟩ nA) (fun _ => ⟨rfl, Inv_refuse hi⟩)
set_option maxHeartbeats 1000000 in
theorem pp_price : PP_price := by
  intro X h a n hi
  obtain ⟨D, w, S, L, W, K, ⟨hm1, bk, hb, hb1, hb2⟩, hc, hl, hs, hn, hw, hk, ha, hx, hh, hp⟩ := id hi
  obtain ⟨hD6, hw60, hD, hD', hwk, hwk', hwg, hwg', hpd, hln, her, hS, hL, hW, hK⟩ := id hc
  refine FC_price_s hD hD6 (fun j m u1 u2 u3 e1 e3 => ?_) (fun nA => ?_)
  · refine FM_price_s (by simpa [pI1] using hD') hD6 (fun j' m' v1 v2 v3 f1 f3 => ?_) (fun nA => absurd ⟨⟨j, u1, e1⟩, ⟨m, u2, u3, e3⟩⟩ nA)
    obtain rfl := nI_inj (e1.symm.trans f1) (by omega) (by omega)
    refine ⟨?_, ?_⟩
    · simp only [pI1]
      simp
      simpa using (hl.1 j (by omega)).2.1
    · exact ⟨D, w, S, L, W, K, ⟨by simp [pI1], bk, hb, by simp [pI1, hb1], by simp [pI1, hb2]⟩, iCnt_cg (by simp [pI1]) hc, iLand_P (j := j) (n := n) (by omega) ⟨m, u2, u3, e3⟩ (fun k => by simp [pI1]) (fun k => by simp [pI1]) (by simp [pI_r]) hl, iSigns_cg (by simp [pI_r]) (fun k _ => by simp [pI_r]) hs, iLines_cg (by simp [pI_r]) (fun k _ => by simp [pI_r]) hn, iWays_cg (by simp [pI_r, pI1]) (fun k _ => by simp [pI_r]) hw, iWorks_cg (by simp [pI_r, pI1]) (fun k _ => by simp [pI_r]) hk, iWas_cg (by simp [pI_r]) ha, iAct_cg (by simp [pI_r, pI1]) hx, iSheet_cg (by simp [pI_r]) hh, iKept_cg (Nat.le_refl _) (Nat.le_refl _) (Nat.le_refl _) (Nat.le_refl _) (by simp [pI_r, pI1]) (fun k _ => by simp [pI_r]) (fun k _ => by simp [pI_r]) (fun k _ => by simp [pI_r]) (fun k _ => by simp [pI_r]) hp⟩
  · exact FM_price_s (by simpa [pI1] using hD') hD6 (fun j' m' v1 v2 v3 f1 f3 => absurd ⟨⟨j', v1, f1⟩, ⟨m', v2, v3, f3⟩⟩ nA) (fun _ => ⟨rfl, Inv_refuse hi⟩)
set_option maxHeartbeats 1000000 in
theorem pp_wage : PP_wage := by
  intro X h n hi
  obtain ⟨D, w, S, L, W, K, ⟨hm1, bk, hb, hb1, hb2⟩, hc, hl, hs, hn, hw, hk, ha, hx, hh, hp⟩ := id hi
  obtain ⟨hD6, hw60, hD, hD', hwk, hwk', hwg, hwg', hpd, hln, her, hS, hL, hW, hK⟩ := id hc
  refine FC_wage_s (fun m u1 e1 => ?_) (fun nA => ?_)
  · refine FM_wage_s (fun m' v1 f1 => ?_) (fun nA => absurd ⟨m, Nat.zero_le _, u1, e1⟩ nA)
    refine ⟨by simpa [pI1] using hwg, ?_⟩
    exact ⟨D, w, S, L, W, K, ⟨by simp [pI1], bk, hb, by simp [pI1, hb1], by simp [pI1, hb2]⟩, ⟨hD6, hw60, by simp [pI1, hD], by simp [pI1, hD'], by simp [pI1, hwk], by simp [pI1, hwk'], by simp [pI1], by simp [pI1]; exact ⟨m, Nat.zero_le _, u1, e1⟩, by simp [pI1, hpd], by simp [pI1, hln], by simp [pI1, her], by simp [pI1, hS], by simp [pI1, hL], by simp [pI1, hW], by simp [pI1, hK]⟩, iLand_cg (by simp [pI_r]) hl, iSigns_cg (by simp [pI_r]) (fun k _ => by simp [pI_r]) hs, iLines_cg (by simp [pI_r]) (fun k _ => by simp [pI_r]) hn, iWays_cg (by simp [pI_r, pI1]) (fun k _ => by simp [pI_r]) hw, iWorks_cg (by simp [pI_r, pI1]) (fun k _ => by simp [pI_r]) hk, iWas_cg (by simp [pI_r]) ha, iAct_cg (by simp [pI_r, pI1]) hx, iSheet_cg (by simp [pI_r]) hh, iKept_cg (Nat.le_refl _) (Nat.le_refl _) (Nat.le_refl _) (Nat.le_refl _) (by simp [pI_r, pI1]) (fun k _ => by simp [pI_r]) (fun k _ => by simp [pI_r]) (fun k _ => by simp [pI_r]) (fun k _ => by simp [pI_r]) hp⟩
  · exact FM_wage_s (fun m' v1 f1 => absurd ⟨m', Nat.zero_le _, v1, f1⟩ nA) (fun _ => ⟨rfl, Inv_refuse hi⟩)
theorem iWays_add {h h' : HH} {W D i j : Nat} {a b n n1 : Int32} (hW : W < 12) (hi : i < D) (hj : j < D) (hij : i ≠ j) (hD : D ≤ 6) (e1 : a = nI i) (e2 : b = nI j) (e3 : isN n 1 999) (e4 : isN n1 1 99) (q1 : h'.1 11 4 = nI (W + 1)) (r : ∀ x, h'.1 12 x = (if x = W then a else h.1 12 x) ∧ h'.1 13 x = (if x = W then b else h.1 13 x) ∧ h'.1 14 x = (if x = W then n else h.1 14 x) ∧ h'.1 15 x = (if x = W then n1 else h.1 15 x))
    (t : ∀ x, h'.1 80 x = (if x = W then a else h.1 80 x) ∧ h'.1 81 x = (if x = W then b else h.1 81 x) ∧ h'.1 82 x = (if x = W then n else h.1 82 x) ∧ h'.1 83 x = (if x = W then n1 else h.1 83 x)) (H : iWays h 11 W D) : iWays h' 11 (W + 1) D := by
  refine ⟨by omega, q1, fun x hx => ?_⟩
  obtain ⟨r1, r2, r3, r4⟩ := r x
  obtain ⟨t1, t2, t3, t4⟩ := t x
  rw [r1, r2, r3, r4, t1, t2, t3, t4]
  by_cases z : x = W
  · simp only [if_pos z]
    exact ⟨⟨⟨i, hi, e1⟩, ⟨j, hj, e2⟩, fun y => hij (nI_inj (by rw [← e1, ← e2, y]) (by omega) (by omega)), e3, e4⟩, trivial, trivial, trivial, trivial⟩
  · simp only [if_neg z]
    exact H.2.2 x (by omega)
set_option maxHeartbeats 1000000 in
theorem pp_way : PP_way := by
  intro X h a b n n1 hi
  obtain ⟨D, w, S, L, W, K, ⟨hm1, bk, hb, hb1, hb2⟩, hc, hl, hs, hn, hw, hk, ha, hx, hh, hp⟩ := id hi
  obtain ⟨hD6, hw60, hD, hD', hwk, hwk', hwg, hwg', hpd, hln, her, hS, hL, hW, hK⟩ := id hc
  refine FC_way_s hD hD6 hw.2.1 hw.1 (fun i j c p u1 u2 u3 u4 u5 u6 u7 e1 e2 e3 e4 e5 => ?_) (fun nA => ?_) (fun A nW => ?_)
  · refine FM_way_s (by simpa [pI1] using hD') hD6 (W := W) (by simpa [pI1] using hW) hw.1 (fun i' j' c' p' v1 v2 v3 v4 v5 v6 v7 f1 f2 f3 f4 f5 => ?_) (fun nA => absurd ⟨⟨i, u1, e1⟩, ⟨j, u2, e2⟩, fun y => u3 (nI_inj (by rw [← e1, ← e2, y]) (by omega) (by omega)), ⟨c, u4, u5, e3⟩, ⟨p, u6, u7, e4⟩⟩ nA) (fun _ nW => absurd e5 nW)
    refine ⟨rfl, ?_⟩
    exact ⟨D, w, S, L, W + 1, K, ⟨by simp [pI1], bk, hb, by simp [pI1, hb1], by simp [pI1, hb2]⟩, ⟨hD6, hw60, by simp [pI1, hD], by simp [pI1, hD'], by simp [pI1, hwk], by simp [pI1, hwk'], by simp [pI1, hwg], by simp [pI1]; exact hwg', by simp [pI1, hpd], by simp [pI1, hln], by simp [pI1, her], by simp [pI1, hS], by simp [pI1, hL], by simp [pI1], by simp [pI1, hK]⟩, iLand_cg (by simp [pI_r]) hl, iSigns_cg (by simp [pI_r]) (fun k _ => by simp [pI_r]) hs, iLines_cg (by simp [pI_r]) (fun k _ => by simp [pI_r]) hn,
      iWays_add e5 u1 u2 u3 hD6 e1 e2 ⟨c, u4, u5, e3⟩ ⟨p, u6, u7, e4⟩ (by simp [pI1, hw.2.1, nI_1]) (fun x => by simp [pI1]) (fun x => by simp [pI1]) hw, iWorks_cg (by simp [pI_r, pI1]) (fun k _ => by simp [pI_r]) hk, iWas_cg (by simp [pI_r]) ha, iAct_cg (by simp [pI_r, pI1]) hx, iSheet_cg (by simp [pI_r]) hh, iKept_cg (Nat.le_refl _) (Nat.le_refl _) (by omega) (Nat.le_refl _) (by simp [pI_r, pI1]) (fun k _ => by simp [pI_r]) (fun k _ => by simp [pI_r]) (fun k hk => by simp [pI1]; omega) (fun k _ => by simp [pI_r]) hp⟩
  · exact FM_way_s (by simpa [pI1] using hD') hD6 (W := W) (by simpa [pI1] using hW) hw.1 (fun i j c p u1 u2 u3 u4 u5 u6 u7 e1 e2 e3 e4 e5 => absurd ⟨⟨i, u1, e1⟩, ⟨j, u2, e2⟩, fun y => u3 (nI_inj (by rw [← e1, ← e2, y]) (by omega) (by omega)), ⟨c, u4, u5, e3⟩, ⟨p, u6, u7, e4⟩⟩ nA) (fun _ => ⟨rfl, Inv_refuse hi⟩) (fun A _ => absurd A nA)
  · exact FM_way_s (by simpa [pI1] using hD') hD6 (W := W) (by simpa [pI1] using hW) hw.1 (fun i j c p u1 u2 u3 u4 u5 u6 u7 e1 e2 e3 e4 e5 => absurd e5 nW) (fun nA => absurd A nA) (fun _ _ => ⟨rfl, Inv_refuse hi⟩)
theorem iWorks_add {h h' : HH} {K D i : Nat} {a b n : Int32} (hK : K < 8) (hi : i < D) (hD : D ≤ 6) (e1 : a = nI i) (e2 : isN b 1 999) (e3 : isN n 0 99) (q1 : h'.1 16 3 = nI (K + 1)) (r : ∀ x, h'.1 17 x = (if x = K then a else h.1 17 x) ∧ h'.1 18 x = (if x = K then b else h.1 18 x) ∧ h'.1 19 x = (if x = K then n else h.1 19 x))
    (t : ∀ x, h'.1 84 x = (if x = K then a else h.1 84 x) ∧ h'.1 85 x = (if x = K then b else h.1 85 x) ∧ h'.1 86 x = (if x = K then n else h.1 86 x)) (H : iWorks h 16 K) : iWorks h' 16 (K + 1) := by
  refine ⟨by omega, q1, fun x hx => ?_⟩
  obtain ⟨r1, r2, r3⟩ := r x
  obtain ⟨t1, t2, t3⟩ := t x
  rw [r1, r2, r3, t1, t2, t3]
  by_cases z : x = K
  · simp only [if_pos z]
    exact ⟨⟨⟨i, by omega, e1⟩, e2, e3⟩, trivial, trivial, trivial⟩
  · simp only [if_neg z]
    exact H.2.2 x (by omega)
set_option maxHeartbeats 1000000 in
theorem pp_work : PP_work := by
  intro X h a b n hi
  obtain ⟨D, w, S, L, W, K, ⟨hm1, bk, hb, hb1, hb2⟩, hc, hl, hs, hn, hw, hk, ha, hx, hh, hp⟩ := id hi
  obtain ⟨hD6, hw60, hD, hD', hwk, hwk', hwg, hwg', hpd, hln, her, hS, hL, hW, hK⟩ := id hc
  refine FC_work_s hD hD6 hk.2.1 hk.1 (fun i c p u1 u2 u3 u4 e1 e2 e3 e5 => ?_) (fun nA => ?_) (fun A nW => ?_)
  · refine FM_work_s (by simpa [pI1] using hD') hD6 (K := K) (by simpa [pI1] using hK) hk.1 (fun i' c' p' v1 v2 v3 v4 f1 f2 f3 f5 => ?_) (fun nA => absurd ⟨⟨i, u1, e1⟩, ⟨c, u2, u3, e2⟩, ⟨p, Nat.zero_le _, u4, e3⟩⟩ nA) (fun _ nW => absurd e5 nW)
    refine ⟨rfl, ?_⟩
    exact ⟨D, w, S, L, W, K + 1, ⟨by simp [pI1], bk, hb, by simp [pI1, hb1], by simp [pI1, hb2]⟩, ⟨hD6, hw60, by simp [pI1, hD], by simp [pI1, hD'], by simp [pI1, hwk], by simp [pI1, hwk'], by simp [pI1, hwg], by simp [pI1]; exact hwg', by simp [pI1, hpd], by simp [pI1, hln], by simp [pI1, her], by simp [pI1, hS], by simp [pI1, hL], by simp [pI1, hW], by simp [pI1]⟩, iLand_cg (by simp [pI_r]) hl, iSigns_cg (by simp [pI_r]) (fun k _ => by simp [pI_r]) hs, iLines_cg (by simp [pI_r]) (fun k _ => by simp [pI_r]) hn, iWays_cg (by simp [pI_r, pI1]) (fun k _ => by simp [pI_r]) hw,
      iWorks_add e5 u1 hD6 e1 ⟨c, u2, u3, e2⟩ ⟨p, Nat.zero_le _, u4, e3⟩ (by simp [pI1, hk.2.1, nI_1]) (fun x => by simp [pI1]) (fun x => by simp [pI1]) hk, iWas_cg (by simp [pI_r]) ha, iAct_cg (by simp [pI_r, pI1]) hx, iSheet_cg (by simp [pI_r]) hh, iKept_cg (Nat.le_refl _) (Nat.le_refl _) (Nat.le_refl _) (by omega) (by simp [pI_r, pI1]) (fun k _ => by simp [pI_r]) (fun k _ => by simp [pI_r]) (fun k _ => by simp [pI_r]) (fun k hk => by simp [pI1]; omega) hp⟩
  · exact FM_work_s (by simpa [pI1] using hD') hD6 (K := K) (by simpa [pI1] using hK) hk.1 (fun i c p u1 u2 u3 u4 e1 e2 e3 e5 => absurd ⟨⟨i, u1, e1⟩, ⟨c, u2, u3, e2⟩, ⟨p, Nat.zero_le _, u4, e3⟩⟩ nA) (fun _ => ⟨rfl, Inv_refuse hi⟩) (fun A _ => absurd A nA)
  · exact FM_work_s (by simpa [pI1] using hD') hD6 (K := K) (by simpa [pI1] using hK) hk.1 (fun i c p u1 u2 u3 u4 e1 e2 e3 e5 => absurd e5 nW) (fun nA => absurd A nA) (fun _ _ => ⟨rfl, Inv_refuse hi⟩)
end PP2
