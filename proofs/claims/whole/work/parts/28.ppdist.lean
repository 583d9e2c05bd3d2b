section PD
theorem iLand_add {h h' : HH} {D : Nat} {a b : Int32} (hD : D < 6) (ha : isN a 0 99999) (hb : isN b 1 99) (e1 : ∀ k, h'.1 3 k = if k = D * 15 + 1 then b else if k = D * 15 + 0 then a else if D * 15 ≤ k ∧ k < D * 15 + 15 then 0 else h.1 3 k) (e2 : ∀ k, h'.1 58 k = if k = D then a else h.1 58 k) (e3 : ∀ k, h'.1 59 k = if k = D then b else h.1 59 k) (e4 : ∀ k, h'.1 62 k = if k = D then 0 else h.1 62 k)
    (e5 : ∀ k, h'.1 60 k = if 3 * D ≤ k ∧ k < 3 * D + 3 then 0 else h.1 60 k) (e6 : ∀ k, h'.1 61 k = if 3 * D ≤ k ∧ k < 3 * D + 3 then 0 else h.1 61 k) (e7 : ∀ k, h'.1 63 k = if 3 * D ≤ k ∧ k < 3 * D + 3 then 0 else h.1 63 k) (e8 : ∀ k, h'.1 64 k = if 3 * D ≤ k ∧ k < 3 * D + 3 then 0 else h.1 64 k) (H : iLand h 2 D 58 59 60 61 62 63 64 0 0) : iLand h' 2 (D + 1) 58 59 60 61 62 63 64 0 0 := by
  obtain ⟨H1, H2, H3, H4⟩ := H
  simp only [iLand, Nat.zero_add] at *
  refine ⟨fun d hd => ?_, fun d q hd hq => ?_, fun d hd => ?_, fun d q hd hq => ?_⟩
  · have := H1 d hd
    by_cases z : d = D
    · subst z
      rw [e1, e1, e1, e2, e3, e4, if_pos rfl, if_pos rfl, if_pos rfl, if_neg (show ¬ d * 15 + 0 = d * 15 + 1 by omega), if_pos rfl, if_pos rfl, if_neg (show ¬ d * 15 + 8 = d * 15 + 1 by omega), if_neg (show ¬ d * 15 + 8 = d * 15 + 0 by omega), if_pos (by omega)]
      exact ⟨rfl, rfl, rfl⟩
    · rw [e1, e1, e1, e2, e3, e4, if_neg z, if_neg z, if_neg z]
      rw [if_neg (by omega), if_neg (by omega), if_neg (by omega), if_neg (by omega), if_neg (by omega), if_neg (by omega), if_neg (by omega), if_neg (by omega), if_neg (by omega)]
      exact this
  · have := H2 d q hd hq
    rw [e1, e1, e1, e1, e5, e6, e7, e8]
    by_cases z : d = D
    · subst z
      have y : 3 * d ≤ 3 * d + q ∧ 3 * d + q < 3 * d + 3 := by omega
      simp only [if_pos y]
      refine ⟨?_, ?_, ?_, ?_⟩
      all_goals rw [if_neg (by omega), if_neg (by omega), if_pos (by omega)]
    · have y : ¬ (3 * D ≤ 3 * d + q ∧ 3 * d + q < 3 * D + 3) := by omega
      simp only [if_neg y]
      refine ⟨?_, ?_, ?_, ?_⟩
      all_goals rw [if_neg (by omega), if_neg (by omega), if_neg (by omega)]
      · exact this.1
      · exact this.2.1
      · exact this.2.2.1
      · exact this.2.2.2
  · rw [e2, e3]
    by_cases z : d = D
    · rw [if_pos z, if_pos z]; exact ⟨ha, hb⟩
    · rw [if_neg z, if_neg z]; exact H3 d (by omega)
  · rw [e5, e6]
    by_cases y : 3 * D ≤ 3 * d + q ∧ 3 * d + q < 3 * D + 3
    · rw [if_pos y, if_pos y]; exact ⟨⟨0, by omega, by omega, rfl⟩, ⟨0, by omega, by omega, rfl⟩⟩
    · rw [if_neg y, if_neg y]; exact H4 d q (by omega) hq
theorem isLt_mono {x : Int32} {a b : Nat} (h : isLt x a) (hab : a ≤ b) : isLt x b := by
  obtain ⟨j, h1, h2⟩ := h
  exact ⟨j, by omega, h2⟩
theorem iWays_mono {h : HH} {o W D E : Nat} (hD : D ≤ E) (H : iWays h o W D) : iWays h o W E := by
  refine ⟨H.1, H.2.1, fun w hw => ?_⟩
  obtain ⟨⟨a1, a2, a3⟩, a4⟩ := H.2.2 w hw
  exact ⟨⟨isLt_mono a1 hD, isLt_mono a2 hD, a3⟩, a4⟩
theorem Z4_r {h : HH} {b i a : Nat} (h1 : a ≠ 60) (h2 : a ≠ 61) (h3 : a ≠ 63) (h4 : a ≠ 64) : (Z4 h b i).1 a = h.1 a := by
  funext y; simp [Z4, h1, h2, h3, h4]
set_option maxHeartbeats 2000000 in
theorem pp_district : PP_district := by
  intro X h a b hi
  obtain ⟨D, w, S, L, W, K, ⟨hm1, bk, hb, hb1, hb2⟩, hc, hl, hs, hn, hw, hk, ha, hx, hh, hp⟩ := id hi
  obtain ⟨hD6, hw60, hD, hD', hwk, hwk', hwg, hwg', hpd, hln, her, hS, hL, hW, hK⟩ := id hc
  refine FC_district_s hD hD6 (fun u1 u2 u3 => ?_) (fun A nD => ?_) (fun nA => ?_)
  · refine FM_district_s (D := D) (by simpa [pI1, fR1] using hD') hD6 (fun _ v2 v3 => ?_) (fun _ nD => absurd u1 nD) (fun nA => absurd ⟨u2, u3⟩ nA)
    have ia := (isN_of (a := 0) (l := 0) (m := 99999) rfl rfl (by omega) (by omega)).mp u2
    have ib := (isN_of (a := 1) (l := 1) (m := 99) rfl rfl (by omega) (by omega)).mp u3
    refine ⟨rfl, ?_⟩
    exact ⟨D + 1, w, S, L, W, K, ⟨by simp [pI1, fR1, Z41], bk, hb, by simp [pI1, fR1, Z41, hb1], by simp [pI1, fR1, Z41, hb2]⟩, ⟨by omega, hw60, by simp [pI1, fR1, Z41], by simp [pI1, fR1, Z41], by simp [pI1, fR1, Z41, hwk], by simp [pI1, fR1, Z41, hwk'], by simp [pI1, fR1, Z41, hwg], by simp [pI1, fR1, Z41]; exact hwg', by simp [pI1, fR1, Z41, hpd], by simp [pI1, fR1, Z41, hln], by simp [pI1, fR1, Z41, her], by simp [pI1, fR1, Z41, hS], by simp [pI1, fR1, Z41, hL], by simp [pI1, fR1, Z41, hW], by simp [pI1, fR1, Z41, hK]⟩,
      iLand_add u1 ia ib (fun k => by simp [pI1, fR1, Z41]) (fun k => by simp [pI1, fR1, Z41]) (fun k => by simp [pI1, fR1, Z41]) (fun k => by simp [pI1, fR1, Z41]) (fun k => by simp [pI1, fR1, Z41]) (fun k => by simp [pI1, fR1, Z41]) (fun k => by simp [pI1, fR1, Z41]) (fun k => by simp [pI1, fR1, Z41]) hl,
      iSigns_cg (by simp [pI_r, fR_r, Z4_r]) (fun k _ => by simp [pI_r, fR_r, Z4_r]) hs, iLines_cg (by simp [pI_r, fR_r, Z4_r]) (fun k _ => by simp [pI_r, fR_r, Z4_r]) hn, iWays_mono (D := D) (by omega) (iWays_cg (by simp [pI_r, fR_r, Z4_r]) (fun k _ => by simp [pI_r, fR_r, Z4_r]) hw), iWorks_cg (by simp [pI_r, fR_r, Z4_r]) (fun k _ => by simp [pI_r, fR_r, Z4_r]) hk, iWas_cg (by simp [pI_r, fR_r, Z4_r]) ha, iAct_cg (by simp [pI_r, pI1, fR_r, fR1, Z4_r, Z41]) hx, iSheet_cg (by simp [pI_r, fR_r, Z4_r]) hh,
      iKept_cg (Nat.le_refl _) (Nat.le_refl _) (Nat.le_refl _) (Nat.le_refl _) (by simp [pI_r, pI1, fR_r, fR1, Z4_r, Z41]) (fun k _ => by simp [pI_r, fR_r, Z4_r]) (fun k _ => by simp [pI_r, fR_r, Z4_r]) (fun k _ => by simp [pI_r, fR_r, Z4_r]) (fun k _ => by simp [pI_r, fR_r, Z4_r]) hp⟩
  · exact FM_district_s (D := D) (by simpa [pI1] using hD') hD6 (fun v1 _ _ => absurd v1 nD) (fun _ _ => ⟨rfl, Inv_refuse hi⟩) (fun nA => absurd A nA)
  · exact FM_district_s (D := D) (by simpa [pI1] using hD') hD6 (fun v1 v2 v3 => absurd ⟨v2, v3⟩ nA) (fun A _ => absurd A nA) (fun _ => ⟨rfl, Inv_refuse hi⟩)
end PD
