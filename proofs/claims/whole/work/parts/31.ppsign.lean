section PSG
theorem iSigns_add {h h' : HH} {S w i j k : Nat} {a b c n : Int32} (hS : S < 200) (hw : w ≤ 60) (hi : i < 6) (hj : j ≤ 3) (hk : k ≤ w) (ea : a = nI i) (eb : b = nI j) (ec : c = nI k) (hn : inI n (-99) 99) (q : h'.1 4 4 = nI (S + 1)) (r5 : ∀ x, h'.1 5 x = if x = S then n else h.1 5 x) (r6 : ∀ x, h'.1 6 x = if x = S then nI w else h.1 6 x) (r7 : ∀ x, h'.1 7 x = if x = S then h.1 8 ((i * 4 + j) * 61 + k) else h.1 7 x) (r8 : ∀ x, h'.1 8 x = if x = (i * 4 + j) * 61 + k then nI (S + 1) else h.1 8 x)
    (t1 : ∀ x, h'.1 66 x = if x = S then a else h.1 66 x) (t2 : ∀ x, h'.1 67 x = if x = S then b else h.1 67 x) (t3 : ∀ x, h'.1 68 x = if x = S then c else h.1 68 x) (t4 : ∀ x, h'.1 69 x = if x = S then nI w else h.1 69 x) (t5 : ∀ x, h'.1 70 x = if x = S then n else h.1 70 x) (H : iSigns h 4 S w) : iSigns h' 4 (S + 1) w := by
  obtain ⟨h1, h2, h3, h4⟩ := H
  have pl : ∀ x, x < S → plc h' x = plc h x := fun x hx => plc_cg ⟨by rw [t1, if_neg (by omega)], by rw [t2, if_neg (by omega)], by rw [t3, if_neg (by omega)]⟩
  have pS : plc h' S = (i * 4 + j) * 61 + k := by
    unfold plc
    rw [t1, t2, t3, if_pos rfl, if_pos rfl, if_pos rfl, ea, eb, ec, nI_clamp (by omega), nI_clamp (by omega), nI_clamp (by omega)]
  refine ⟨by omega, q, fun x hx => ?_, fun p hp => ?_⟩
  · show isLt (h'.1 66 x) 6 ∧ isLt (h'.1 67 x) 4 ∧ isN (h'.1 68 x) 0 60 ∧ isN (h'.1 69 x) 0 w ∧ inI (h'.1 70 x) (-99) 99 ∧ h'.1 5 x = h'.1 70 x ∧ h'.1 6 x = h'.1 69 x ∧ h'.1 7 x = nI (lst h' x (plc h' x))
    rw [t1, t2, t3, t4, t5, r5, r6, r7]
    by_cases z : x = S
    · subst z
      simp only [if_pos]
      refine ⟨⟨i, hi, ea⟩, ⟨j, by omega, eb⟩, ⟨k, by omega, by omega, ec⟩, ⟨w, by omega, by omega, rfl⟩, hn, trivial, trivial, ?_⟩
      rw [pS, lst_cg x _ pl]
      exact h4 _ (by omega)
    · simp only [if_neg z]
      rw [pl x (by omega), lst_cg x _ (fun y hy => pl y (by omega))]
      exact h3 x (by omega)
  · show h'.1 8 p = _
    rw [r8]
    simp only [lst, pS]
    by_cases z : p = (i * 4 + j) * 61 + k
    · rw [if_pos z, if_pos z.symm]
    · rw [if_neg z, if_neg (fun y => z y.symm), lst_cg S p pl]
      exact h4 p hp
set_option maxHeartbeats 1000000 in
theorem pp_sign : PP_sign := by
  intro X h a b c n hi
  obtain ⟨D, w, S, L, W, K, ⟨hm1, bk, hb, hb1, hb2⟩, hc, hl, hs, hn, hw, hk, ha, hx, hh, hp⟩ := id hi
  obtain ⟨hD6, hw60, hD, hD', hwk, hwk', hwg, hwg', hpd, hln, her, hS, hL, hW, hK⟩ := id hc
  refine FC_sign_s hD hD6 hwk hw60 hs.2.1 hs.1 (fun i j k u1 u2 u3 e1 e2 e3 b1 b2 => ?_) (fun A nS => ?_) (fun nA => ?_)
  · refine FM_sign_s (D := D) (w := w) (S := S) (by simpa [pI1] using hD') hD6 (by simpa [pI1] using hwk') hw60 (by simpa [pI1] using hS) hs.1 (fun i' j' k' v1 v2 v3 f1 f2 f3 c1 c2 => ?_) (fun _ nS => absurd b2 nS) (fun nA => absurd ⟨⟨i, u1, e1⟩, ⟨j, Nat.zero_le _, u2, e2⟩, ⟨k, Nat.zero_le _, u3, e3⟩, b1⟩ nA)
    refine ⟨rfl, ?_⟩
    exact ⟨D, w, S + 1, L, W, K, ⟨by simp [pI1], bk, hb, by simp [pI1, hb1], by simp [pI1, hb2]⟩, ⟨hD6, hw60, by simp [pI1, hD], by simp [pI1, hD'], by simp [pI1, hwk], by simp [pI1, hwk'], by simp [pI1, hwg], by simp [pI1]; exact hwg', by simp [pI1, hpd], by simp [pI1, hln], by simp [pI1, her], by simp [pI1], by simp [pI1, hL], by simp [pI1, hW], by simp [pI1, hK]⟩, iLand_cg (by simp [pI_r]) hl,
      iSigns_add b2 hw60 (by omega) u2 u3 e1 e2 e3 b1 (by simp [pI1]) (fun x => by simp [pI1]) (fun x => by simp [pI1]) (fun x => by simp [pI1]) (fun x => by simp [pI1]) (fun x => by simp [pI1]) (fun x => by simp [pI1]) (fun x => by simp [pI1]) (fun x => by simp [pI1]) (fun x => by simp [pI1]) hs, iLines_cg (by simp [pI_r]) (fun k _ => by simp [pI_r]) hn, iWays_cg (by simp [pI_r, pI1]) (fun k _ => by simp [pI_r]) hw, iWorks_cg (by simp [pI_r, pI1]) (fun k _ => by simp [pI_r]) hk, iWas_cg (by simp [pI_r]) ha, iAct_cg (by simp [pI_r, pI1]) hx, iSheet_cg (by simp [pI_r]) hh, iKept_cg (by omega) (Nat.le_refl _) (Nat.le_refl _) (Nat.le_refl _) (by simp [pI_r, pI1]) (fun x hx => by simp [pI1]; omega) (fun k _ => by simp [pI_r]) (fun k _ => by simp [pI_r]) (fun k _ => by simp [pI_r]) hp⟩
  · exact FM_sign_s (D := D) (w := w) (S := S) (by simpa [pI1] using hD') hD6 (by simpa [pI1] using hwk') hw60 (by simpa [pI1] using hS) hs.1 (fun i' j' k' v1 v2 v3 f1 f2 f3 c1 c2 => absurd c2 nS) (fun _ _ => ⟨rfl, Inv_refuse hi⟩) (fun nA => absurd A nA)
  · exact FM_sign_s (D := D) (w := w) (S := S) (by simpa [pI1] using hD') hD6 (by simpa [pI1] using hwk') hw60 (by simpa [pI1] using hS) hs.1 (fun i' j' k' v1 v2 v3 f1 f2 f3 c1 c2 => absurd ⟨⟨i', v1, f1⟩, ⟨j', Nat.zero_le _, v2, f2⟩, ⟨k', Nat.zero_le _, v3, f3⟩, c1⟩ nA) (fun A _ => absurd A nA) (fun _ => ⟨rfl, Inv_refuse hi⟩)
end PSG
