section PP1
variable {h : HH} {D w S L W K : Nat}
theorem ne_lit {a b : Nat} (h : Nat.beq a b = false) : a ≠ b := Nat.ne_of_beq_eq_false h
theorem Inv_refuse {v : Int32} (H : Inv h) : Inv (pI (pI h 0 8 v) 57 0 v) := by
  obtain ⟨D, w, S, L, W, K, ⟨hm1, b, hb, hb1, hb2⟩, hc, hl, hs, hn, hw, hk, ha, hx, hh, hp⟩ := H
  refine ⟨D, w, S, L, W, K, ⟨by simp [pI1], b, hb, by simp [pI1, hb1], by simp [pI1, hb2]⟩, iCnt_cg (by simp [pI1]) hc, iLand_cg (by simp [pI_r]) hl, iSigns_cg (by simp [pI_r]) (fun k _ => by simp [pI_r]) hs, iLines_cg (by simp [pI_r]) (fun k _ => by simp [pI_r]) hn, iWays_cg (by simp [pI_r]) (fun k _ => by simp [pI_r]) hw, iWorks_cg (by simp [pI_r]) (fun k _ => by simp [pI_r]) hk, iWas_cg (by simp [pI_r]) ha, iAct_cg (by simp [pI_r, pI1]) hx, iSheet_cg (by simp [pI_r]) hh, iKept_cg (Nat.le_refl _) (Nat.le_refl _) (Nat.le_refl _) (Nat.le_refl _) (by simp [pI_r, pI1]) (fun k _ => by simp [pI_r]) (fun k _ => by simp [pI_r]) (fun k _ => by simp [pI_r]) (fun k _ => by simp [pI_r]) hp⟩
theorem pp_status : PP_status := by
  intro X h hi
  obtain ⟨D, w, S, L, W, K, ⟨hm1, _⟩, _⟩ := id hi
  exact FC_status_s (FM_status_s ⟨hm1, hi⟩)
theorem iLand_E {j c : Nat} {n : Int32} {h' : HH} (hj : j < 6) (hc : c ≤ 2) (hn : isN n 0 999) (e1 : ∀ k, h'.1 3 k = if k = j * 15 + (2 + c) then n else h.1 3 k) (e2 : ∀ k, h'.1 60 k = if k = 3 * j + c then n else h.1 60 k) (er : h'.1 58 = h.1 58 ∧ h'.1 59 = h.1 59 ∧ h'.1 61 = h.1 61 ∧ h'.1 62 = h.1 62 ∧ h'.1 63 = h.1 63 ∧ h'.1 64 = h.1 64) (H : iLand h 2 D 58 59 60 61 62 63 64 0 0) : iLand h' 2 D 58 59 60 61 62 63 64 0 0 := by
  obtain ⟨H1, H2, H3, H4⟩ := H
  obtain ⟨r1, r2, r3, r4, r5, r6⟩ := er
  refine ⟨fun d hd => ?_, fun d q hd hq => ?_, fun d hd => ?_, fun d q hd hq => ?_⟩
  · rw [r1, r2, r4, e1, e1, e1, if_neg (by omega), if_neg (by omega), if_neg (by omega)]; exact H1 d hd
  · rw [r3, r5, r6, e1, e1, e1, e1, e2, if_neg (show ¬ d * 15 + (5 + q) = j * 15 + (2 + c) by omega), if_neg (show ¬ d * 15 + (9 + q) = j * 15 + (2 + c) by omega), if_neg (show ¬ d * 15 + (12 + q) = j * 15 + (2 + c) by omega)]
    obtain ⟨x1, x2, x3, x4⟩ := H2 d q hd hq
    refine ⟨?_, x2, x3, x4⟩
    by_cases z : d * 15 + (2 + q) = j * 15 + (2 + c)
    · rw [if_pos z, if_pos (by omega)]
    · rw [if_neg z, if_neg (by omega)]; exact x1
  · rw [r1, r2]; exact H3 d hd
  · rw [r3, e2]
    refine ⟨?_, (H4 d q hd hq).2⟩
    split
    · exact hn
    · exact (H4 d q hd hq).1
theorem iLand_C {j c : Nat} {n : Int32} {h' : HH} (hj : j < 6) (hc : c ≤ 2) (hn : isN n 0 99999) (e1 : ∀ k, h'.1 3 k = if k = j * 15 + (5 + c) then n else h.1 3 k) (e2 : ∀ k, h'.1 61 k = if k = 3 * j + c then n else h.1 61 k) (er : h'.1 58 = h.1 58 ∧ h'.1 59 = h.1 59 ∧ h'.1 60 = h.1 60 ∧ h'.1 62 = h.1 62 ∧ h'.1 63 = h.1 63 ∧ h'.1 64 = h.1 64) (H : iLand h 2 D 58 59 60 61 62 63 64 0 0) : iLand h' 2 D 58 59 60 61 62 63 64 0 0 := by
  obtain ⟨H1, H2, H3, H4⟩ := H
  obtain ⟨r1, r2, r3, r4, r5, r6⟩ := er
  refine ⟨fun d hd => ?_, fun d q hd hq => ?_, fun d hd => ?_, fun d q hd hq => ?_⟩
  · rw [r1, r2, r4, e1, e1, e1, if_neg (by omega), if_neg (by omega), if_neg (by omega)]; exact H1 d hd
  · rw [r3, r5, r6, e1, e1, e1, e1, e2, if_neg (show ¬ d * 15 + (2 + q) = j * 15 + (5 + c) by omega), if_neg (show ¬ d * 15 + (9 + q) = j * 15 + (5 + c) by omega), if_neg (show ¬ d * 15 + (12 + q) = j * 15 + (5 + c) by omega)]
    obtain ⟨x1, x2, x3, x4⟩ := H2 d q hd hq
    refine ⟨x1, ?_, x3, x4⟩
    by_cases z : d * 15 + (5 + q) = j * 15 + (5 + c)
    · rw [if_pos z, if_pos (by omega)]
    · rw [if_neg z, if_neg (by omega)]; exact x2
  · rw [r1, r2]; exact H3 d hd
  · rw [r3, e2]
    refine ⟨(H4 d q hd hq).1, ?_⟩
    split
    · exact hn
    · exact (H4 d q hd hq).2
theorem iLand_P {j : Nat} {n : Int32} {h' : HH} (hj : j < 6) (hn : isN n 1 99) (e1 : ∀ k, h'.1 3 k = if k = j * 15 + 1 then n else h.1 3 k) (e2 : ∀ k, h'.1 59 k = if k = j then n else h.1 59 k) (er : h'.1 58 = h.1 58 ∧ h'.1 60 = h.1 60 ∧ h'.1 61 = h.1 61 ∧ h'.1 62 = h.1 62 ∧ h'.1 63 = h.1 63 ∧ h'.1 64 = h.1 64) (H : iLand h 2 D 58 59 60 61 62 63 64 0 0) : iLand h' 2 D 58 59 60 61 62 63 64 0 0 := by
  obtain ⟨H1, H2, H3, H4⟩ := H
  obtain ⟨r1, r2, r3, r4, r5, r6⟩ := er
  refine ⟨fun d hd => ?_, fun d q hd hq => ?_, fun d hd => ?_, fun d q hd hq => ?_⟩
  · rw [r1, r4, e1, e1, e1, e2, if_neg (show ¬ d * 15 + 0 = j * 15 + 1 by omega), if_neg (show ¬ d * 15 + 8 = j * 15 + 1 by omega)]
    obtain ⟨x1, x2, x3⟩ := H1 d hd
    refine ⟨x1, ?_, x3⟩
    by_cases z : d * 15 + 1 = j * 15 + 1
    · rw [if_pos z, if_pos (by omega)]
    · rw [if_neg z, if_neg (by omega)]; exact x2
  · rw [r2, r3, r5, r6, e1, e1, e1, e1, if_neg (by omega), if_neg (by omega), if_neg (by omega), if_neg (by omega)]; exact H2 d q hd hq
  · rw [r1, e2]
    refine ⟨(H3 d hd).1, ?_⟩
    split
    · exact hn
    · exact (H3 d hd).2
  · rw [r2, r3]; exact H4 d q hd hq
set_option maxHeartbeats 1000000 in
theorem pp_people : PP_people := by
  intro X h a b n hi
  obtain ⟨D, w, S, L, W, K, ⟨hm1, bk, hb, hb1, hb2⟩, hc, hl, hs, hn, hw, hk, ha, hx, hh, hp⟩ := id hi
  obtain ⟨hD6, hw60, hD, hD', hwk, hwk', hwg, hwg', hpd, hln, her, hS, hL, hW, hK⟩ := id hc
  refine FC_people_s hD hD6 (fun j c m u1 u2 u3 e1 e2 e3 => ?_) (fun nA => ?_)
  · refine FM_people_s (by simpa [pI1] using hD') hD6 (fun j' c' m' v1 v2 v3 f1 f2 f3 => ?_) (fun nA => absurd ⟨⟨j, u1, e1⟩, ⟨c, Nat.zero_le _, u2, e2⟩, ⟨m, Nat.zero_le _, u3, e3⟩⟩ nA)
    obtain rfl := nI_inj (e1.symm.trans f1) (by omega) (by omega)
    obtain rfl := nI_inj (e2.symm.trans f2) (by omega) (by omega)
    refine ⟨?_, ?_⟩
    · simp only [pI1]
      simp
      simpa using (hl.2.1 j c (by omega) (by omega)).1
    · refine ⟨D, w, S, L, W, K, ⟨by simp [pI1], bk, hb, by simp [pI1, hb1], by simp [pI1, hb2]⟩, iCnt_cg (by simp [pI1]) hc, iLand_E (j := j) (c := c) (n := n) (by omega) u2 ⟨m, Nat.zero_le _, u3, e3⟩ (fun k => by simp [pI1]) (fun k => by simp [pI1]) (by simp [pI_r]) hl, iSigns_cg (by simp [pI_r]) (fun k _ => by simp [pI_r]) hs, iLines_cg (by simp [pI_r]) (fun k _ => by simp [pI_r]) hn, iWays_cg (by simp [pI_r]) (fun k _ => by simp [pI_r]) hw, iWorks_cg (by simp [pI_r]) (fun k _ => by simp [pI_r]) hk, iWas_cg (by simp [pI_r]) ha, iAct_cg (by simp [pI_r, pI1]) hx, iSheet_cg (by simp [pI_r]) hh, iKept_cg (Nat.le_refl _) (Nat.le_refl _) (Nat.le_refl _) (Nat.le_refl _) (by simp [pI_r, pI1]) (fun k _ => by simp [pI_r]) (fun k _ => by simp [pI_r]) (fun k _ => by simp [pI_r]) (fun k _ => by simp [pI_r]) hp⟩
  · refine FM_people_s (by simpa [pI1] using hD') hD6 (fun j' c' m' v1 v2 v3 f1 f2 f3 => absurd ⟨⟨j', v1, f1⟩, ⟨c', Nat.zero_le _, v2, f2⟩, ⟨m', Nat.zero_le _, v3, f3⟩⟩ nA) (fun _ => ⟨rfl, Inv_refuse hi⟩)
end PP1
