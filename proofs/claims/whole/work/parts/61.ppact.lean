section PA
theorem apC_r {a : Nat} (h1 : a ≠ 51) (h2 : a ≠ 52) : ∀ (l : List Int32) (h : HH) (r : Nat), (apC h r l).1 a = h.1 a
  | [], _, _ => rfl
  | b :: bs, h, r => by
    show (apC _ _ bs).1 a = _
    rw [apC_r h1 h2 bs, pI_r h1, pI_r h2]
theorem apM_r {a : Nat} (h1 : a ≠ 57) (h2 : a ≠ 103) : ∀ (l : List Int32) (h : HH) (r : Nat), (apM h r l).1 a = h.1 a
  | [], _, _ => rfl
  | b :: bs, h, r => by
    show (apM _ _ bs).1 a = _
    rw [apM_r h1 h2 bs, pI_r h1, pI_r h2]
theorem apM_57 {j : Nat} (hj : j ≠ 59) : ∀ (l : List Int32) (h : HH) (r : Nat), (apM h r l).1 57 j = h.1 57 j
  | [], _, _ => rfl
  | b :: bs, h, r => by
    show (apM _ _ bs).1 57 j = _
    rw [apM_57 hj bs]; simp [pI1, hj]
theorem apC_n : ∀ (l : List Int32) (h : HH) (r : Nat), h.1 51 1 = nI r → (apC h r l).1 51 1 = nI (r + l.length)
  | [], _, _, e => e
  | b :: bs, h, r, e => by
    show (apC _ _ bs).1 51 1 = _
    rw [apC_n bs _ (r + 1) (by simp [pI1]), show r + (b :: bs).length = r + 1 + bs.length by simp; omega]
theorem apM_n : ∀ (l : List Int32) (h : HH) (r : Nat), h.1 57 59 = nI r → (apM h r l).1 57 59 = nI (r + l.length)
  | [], _, _, e => e
  | b :: bs, h, r, e => by
    show (apM _ _ bs).1 57 59 = _
    rw [apM_n bs _ (r + 1) (by simp [pI1]), show r + (b :: bs).length = r + 1 + bs.length by simp; omega]
theorem ap_eq : ∀ (l : List Int32) (h h' : HH) (r : Nat), (∀ i, i < r → h.1 52 i = h'.1 103 i) → ∀ i, i < r + l.length → (apC h r l).1 52 i = (apM h' r l).1 103 i
  | [], _, _, _, e, i, hi => e i hi
  | b :: bs, h, h', r, e, i, hi => by
    show (apC _ _ bs).1 52 i = (apM _ _ bs).1 103 i
    refine ap_eq bs _ _ (r + 1) (fun j hj => ?_) i (by simp at hi; omega)
    rw [pI_r (show 52 ≠ 51 by omega), pI_r (show 103 ≠ 57 by omega)]
    simp only [pI1, true_and]
    by_cases z : j = r
    · rw [if_pos z, if_pos z]
    · rw [if_neg z, if_neg z]; exact e j (by omega)
set_option maxHeartbeats 2000000 in
theorem pp_act : PP_act := by
  intro X h a b x hi
  obtain ⟨D, w, S, L, W, K, ⟨hm1, bk, hb, hb1, hb2⟩, hc, hl, hs, hn, hw, hk, ha, hx, hh, hp⟩ := id hi
  obtain ⟨hD6, hw60, hD, hD', hwk, hwk', hwg, hwg', hpd, hln, her, hS, hL, hW, hK⟩ := id hc
  have mD := hD'; have m6 := hD6; have h6 := hD6; have mL := hL; have hL := hn.2.1; have m12 := hn.1; have h12 := hn.1
  have bad : ¬ (isLt a L ∧ inI b 0 3) → E X 59 FM_act 0 [.ref 57, .int a, .int b, .int x] [] (pI h 0 8 1) (fun r2 h2 => -1 = r2 ∧ Inv h2) := fun nA => by
    refine (FM_act_0 (FM_act_1 (FM_act_2 (Nat.le_of_ble_eq_true rfl) (FM_isLine_n mL m12 (fun j2m u2m e2m => (FM_act_5 (fun z => absurd z (by decide)) (fun _ => (FM_act_8 (FM_act_9 (FM_act_10 (FM_act_11 (Nat.le_of_ble_eq_true rfl) (FM_in_c (fun c11 => (FM_act_14 (fun _ => ?_) (fun z => absurd z (by decide)))) (fun c11 => (FM_act_14 (fun z => absurd z (by decide)) (fun _ => (FM_act_17 (FM_act_18 (FM_act_19 (Nat.le_of_ble_eq_true rfl) (FM_refused_c (FM_act_22 ?_)))))))))))))))) (fun n2m => (FM_act_5 (fun _ => (FM_act_17 (FM_act_18 (FM_act_19 (Nat.le_of_ble_eq_true rfl) (FM_refused_c (FM_act_22 ?_)))))) (fun z => absurd z (by decide))))))))
    · exact absurd ⟨⟨j2m, u2m, e2m⟩, c11⟩ nA
    all_goals exact ⟨rfl, Inv_refuse hi⟩
  refine (FC_act_0 (FC_act_1 (FC_act_2 (Nat.le_of_ble_eq_true rfl) (FC_isLine_n hL h12 (fun j2 u2 e2 => (FC_act_5 (fun z => absurd z (by decide)) (fun _ => (FC_act_8 (FC_act_9 (FC_act_10 (FC_act_11 (Nat.le_of_ble_eq_true rfl) (FC_within_c (fun c11 => (FC_act_14 (fun _ => (FC_act_23 (FC_act_24 (FC_act_25 (FC_act_28 (FC_act_29 (FC_act_32 (FC_act_35 (FC_act_36 (FC_act_37 (FC_act_38 (Nat.le_of_ble_eq_true rfl) ?_))))))))))) (fun z => absurd z (by decide)))) (fun c11 => (FC_act_14 (fun z => absurd z (by decide)) (fun _ => (FC_act_17 (FC_act_18 (FC_act_19 (Nat.le_of_ble_eq_true rfl) (FC_refuse_c (FC_act_22 ?_)))))))))))))))) (fun n2 => (FC_act_5 (fun _ => (FC_act_17 (FC_act_18 (FC_act_19 (Nat.le_of_ble_eq_true rfl) (FC_refuse_c (FC_act_22 ?_)))))) (fun z => absurd z (by decide))))))))
  · obtain ⟨A, -, A3, eA⟩ := (isN_of (l := 0) (m := 3) rfl rfl (by omega) (by omega)).mp c11
    obtain ⟨⟨⟨K', -, K5, eK⟩, -⟩, b0, -, b2, -, b4, -⟩ := hn.2.2 j2 u2
    have b0' : h.1 10 (j2 * 9 + 0) = h.1 71 j2 := b0
    have b2' : h.1 10 (j2 * 9 + 2) = h.1 73 j2 := b2
    have b4' : h.1 10 (j2 * 9 + 4) = h.1 75 j2 := b4
    subst e2; subst eA
    refine (Ac_run_0 (Ac_run_1 (Ac_run_2 (Ac_run_5 (Ac_run_6 (Ac_run_7 (Ac_run_8 (Ac_run_9 (Nat.le_of_ble_eq_true rfl) (Co_get_c (by first | assumption | exact rfl) (show (0 : Int32) = nI 0 from rfl) (by omega) (by omega) (Ac_run_12 (Ac_run_15 (Ac_run_16 (Ac_run_17 (Ac_run_18 (Ac_run_19 (Nat.le_of_ble_eq_true rfl) (Co_get_c (by first | assumption | exact rfl) (show (4 : Int32) = nI 4 from rfl) (by omega) (by omega) (Ac_run_22 (Ac_run_25 (Ac_run_26 (Ac_run_27 (Ac_run_28 (Ac_run_29 (Nat.le_of_ble_eq_true rfl) (Co_get_c (by first | assumption | exact rfl) (show (2 : Int32) = nI 2 from rfl) (by omega) (by omega) (Ac_run_32 (Ac_run_35 (Ac_run_36 (Ac_run_37 (Ac_run_40 (Ac_run_41 (Ac_run_42 (Ac_run_44 (Ac_run_45 (Nat.le_of_ble_eq_true rfl) ?_))))))))))))))))))))))))))))))))
    generalize e1 : pI (pI (pI (pI (pI h 51 2 _) 51 3 _) 51 4 _) 51 5 _) 51 1 0 = h1
    have hs1 : aS h1 0 K' (nI j2) (h.1 75 j2) (h.1 73 j2) := by
      rw [← e1]
      exact ⟨by simp [pI1]; rfl, by simp [pI1], by simp [pI1]; exact b0'.trans eK, by simp [pI1]; exact b4', by simp [pI1]; exact b2'⟩
    have f1 : ∀ r, r ≠ 51 → h1.1 r = h.1 r := fun r hr => by rw [← e1, pI_r hr, pI_r hr, pI_r hr, pI_r hr, pI_r hr]
    have fin : ∀ R : AR, R.2.length ≤ 50 → Inv (apM (pI (pI (pI (apC h1 0 R.2) 0 8 0) 57 59 0) 57 0 0) 0 R.2) := by
      intro R hR
      generalize eF : apM (pI (pI (pI (apC h1 0 R.2) 0 8 0) 57 59 0) 57 0 0) 0 R.2 = Hf
      have g : ∀ r, r ≠ 0 → r ≠ 51 → r ≠ 52 → r ≠ 57 → r ≠ 103 → Hf.1 r = h.1 r := fun r a b c d e => by
        rw [← eF, apM_r d e, pI_r d, pI_r d, pI_r a, apC_r b c, f1 r b]
      have g57 : ∀ j, j ≠ 0 → j ≠ 59 → Hf.1 57 j = h.1 57 j := fun j a b => by
        rw [← eF, apM_57 b]
        simp only [pI1, true_and]
        rw [if_neg a, if_neg b, if_neg (by omega), apC_r (by omega) (by omega), f1 57 (by omega)]
      have g0 : Hf.1 0 8 = 0 ∧ (∀ j, j ≠ 8 → Hf.1 0 j = h.1 0 j) := by
        rw [← eF, apM_r (by omega) (by omega), pI_r (by omega), pI_r (by omega)]
        refine ⟨by simp [pI1], fun j hj => ?_⟩
        simp only [pI1, true_and]; rw [if_neg hj, apC_r (by omega) (by omega), f1 0 (by omega)]
      refine ⟨D, w, S, L, W, K, ⟨?_, bk, hb, by rw [g0.2 7 (by omega), hb1], by rw [g57 54 (by omega) (by omega), hb2]⟩, iCnt_cg ⟨?_, ?_, ?_, ?_, ?_, ?_, ?_, ?_, ?_, ?_, ?_, ?_, ?_, ?_, ?_, ?_⟩ hc, iLand_cg ⟨?_, ?_, ?_, ?_, ?_, ?_, ?_, ?_⟩ hl, iSigns_cg ⟨?_, ?_, ?_, ?_, ?_⟩ (fun k _ => ⟨?_, ?_, ?_, ?_, ?_⟩) hs, iLines_cg ⟨?_, ?_⟩ (fun k _ => ⟨?_, ?_, ?_, ?_, ?_, ?_, ?_, ?_, ?_⟩) hn, iWays_cg ⟨?_, ?_, ?_, ?_, ?_⟩ (fun k _ => ⟨?_, ?_, ?_, ?_⟩) hw, iWorks_cg ⟨?_, ?_, ?_, ?_⟩ (fun k _ => ⟨?_, ?_, ?_⟩) hk, iWas_cg ⟨?_, ?_⟩ ha, ⟨R.2.length, hR, ?_, ?_, ?_⟩, iSheet_cg ⟨?_, ?_, ?_, ?_, ?_, ?_⟩ hh, iKept_cg (Nat.le_refl _) (Nat.le_refl _) (Nat.le_refl _) (Nat.le_refl _) ⟨⟨?_, ?_, ?_, ?_, ?_, ?_, ?_, ?_⟩, ⟨?_, ?_, ?_, ?_, ?_, ?_, ?_, ?_, ?_, ?_, ?_, ?_, ?_, ?_⟩, ?_, ?_, ?_, ?_, ?_, ?_, ?_, ?_, ?_, ?_, ?_⟩ (fun k _ => ⟨?_, ?_, ?_, ?_, ?_⟩) (fun k _ => ⟨?_, ?_, ?_, ?_, ?_, ?_, ?_, ?_⟩) (fun k _ => ⟨?_, ?_, ?_, ?_⟩) (fun k _ => ⟨?_, ?_, ?_⟩) hp⟩
      · rw [g0.1, ← eF, apM_57 (by omega)]; simp [pI1]
      all_goals first | exact g _ (by omega) (by omega) (by omega) (by omega) (by omega) | exact congrFun (g _ (by omega) (by omega) (by omega) (by omega) (by omega)) _ | exact g57 _ (by omega) (by omega) | exact g0.2 _ (by omega) | skip
      · rw [← eF, apM_r (by omega) (by omega), pI_r (by omega), pI_r (by omega), pI_r (by omega), apC_n _ _ 0 hs1.1, Nat.zero_add]
      · rw [← eF, apM_n _ _ 0 (by simp [pI1]; rfl), Nat.zero_add]
      · intro i hi
        have := ap_eq R.2 h1 (pI (pI (pI (apC h1 0 R.2) 0 8 0) 57 59 0) 57 0 0) 0 (fun i hi => absurd hi (by omega)) i (by omega)
        rw [← eF, apM_r (by omega) (by omega), pI_r (by omega), pI_r (by omega), pI_r (by omega)]
        exact this
    have mod : ∀ R : AR, bS (pI (pI (pI (apC h1 0 R.2) 0 8 0) 57 59 0) 57 0 0) 0 j2 K' (h.1 75 j2) (h.1 73 j2) := fun R => by
      have q : ∀ r, 57 < r → (pI (pI (pI (apC h1 0 R.2) 0 8 0) 57 59 0) 57 0 0).1 r = h.1 r := fun r hr => by
        rw [pI_r (by omega), pI_r (by omega), pI_r (by omega), apC_r (by omega) (by omega), f1 r (by omega)]
      exact ⟨by simp [pI1]; rfl, by rw [q 71 (by omega), eK], by rw [q 75 (by omega)], by rw [q 73 (by omega)]⟩
    have mL2 : ∀ R : AR, (pI (apC h1 0 R.2) 0 8 0).1 57 21 = nI L := fun R => by rw [pI_r (by omega), apC_r (by omega) (by omega), f1 57 (by omega)]; exact mL
    match A, A3, c11 with
    | 0, _, cA =>
      refine O_0 (r := 0) (dep := 0) hs1 (by omega) (by omega) (by omega) ?_
      refine (Ac_run_48 ?_)
      refine (FC_act_41 (Nat.le_of_ble_eq_true rfl) (FC_done_c (FC_act_44 ?_)))
      have mL := mL2 (rO K' (h.1 75 j2) x)
      refine (FM_act_0 (FM_act_1 (FM_act_2 (Nat.le_of_ble_eq_true rfl) (FM_isLine_n mL m12 (fun j2m u2m e2m => (FM_act_5 (fun z => absurd z (by decide)) (fun _ => (FM_act_8 (FM_act_9 (FM_act_10 (FM_act_11 (Nat.le_of_ble_eq_true rfl) (FM_in_c (fun c11 => (FM_act_14 (fun _ => ?_) (fun z => absurd z (by decide)))) (fun c11 => (FM_act_14 (fun z => absurd z (by decide)) (fun _ => (FM_act_17 (FM_act_18 (FM_act_19 (Nat.le_of_ble_eq_true rfl) (FM_refused_c (FM_act_22 ?_)))))))))))))))) (fun n2m => (FM_act_5 (fun _ => (FM_act_17 (FM_act_18 (FM_act_19 (Nat.le_of_ble_eq_true rfl) (FM_refused_c (FM_act_22 ?_)))))) (fun z => absurd z (by decide))))))))
      · refine (FM_act_23 (FM_act_24 (FM_act_25 (FM_act_28 (FM_act_29 (FM_act_30 (FM_act_33 (FM_act_34 (fun z => absurd z (by decide)) (fun _ => (FM_act_37 (FM_act_38 (FM_act_39 (FM_act_40 (Nat.le_of_ble_eq_true rfl) ?_)))))))))))))
        refine FM_openOf_c (mod (rO K' (h.1 75 j2) x)) (by omega) (by omega) (by omega) ?_
        refine (FM_act_43 (FM_act_80 ?_))
        exact ⟨rfl, fin (rO K' (h.1 75 j2) x) (by have := rO_l K' (h.1 75 j2) x; omega)⟩
      · exact absurd cA c11
      · exact absurd ⟨j2, u2, rfl⟩ n2m
    | 1, _, cA =>
      refine O_1 (r := 0) (dep := 0) hs1 (by omega) (by omega) (by omega) ?_
      refine (Ac_run_48 ?_)
      refine (FC_act_41 (Nat.le_of_ble_eq_true rfl) (FC_done_c (FC_act_44 ?_)))
      have mL := mL2 (rP K' K' (nI j2) (h.1 75 j2) (h.1 73 j2) x)
      refine (FM_act_0 (FM_act_1 (FM_act_2 (Nat.le_of_ble_eq_true rfl) (FM_isLine_n mL m12 (fun j2m u2m e2m => (FM_act_5 (fun z => absurd z (by decide)) (fun _ => (FM_act_8 (FM_act_9 (FM_act_10 (FM_act_11 (Nat.le_of_ble_eq_true rfl) (FM_in_c (fun c11 => (FM_act_14 (fun _ => ?_) (fun z => absurd z (by decide)))) (fun c11 => (FM_act_14 (fun z => absurd z (by decide)) (fun _ => (FM_act_17 (FM_act_18 (FM_act_19 (Nat.le_of_ble_eq_true rfl) (FM_refused_c (FM_act_22 ?_)))))))))))))))) (fun n2m => (FM_act_5 (fun _ => (FM_act_17 (FM_act_18 (FM_act_19 (Nat.le_of_ble_eq_true rfl) (FM_refused_c (FM_act_22 ?_)))))) (fun z => absurd z (by decide))))))))
      · refine (FM_act_23 (FM_act_24 (FM_act_25 (FM_act_28 (FM_act_29 (FM_act_30 (FM_act_33 (FM_act_34 (fun _ => (FM_act_46 (FM_act_47 (FM_act_48 (fun z => absurd z (by decide)) (fun _ => (FM_act_51 (FM_act_52 (FM_act_53 (FM_act_54 (Nat.le_of_ble_eq_true rfl) ?_))))))))) (fun z => absurd z (by decide))))))))))
        refine FM_payOf_c (mod (rP K' K' (nI j2) (h.1 75 j2) (h.1 73 j2) x)) (by omega) (by omega) (by omega) ?_
        refine (FM_act_57 (FM_act_80 ?_))
        exact ⟨rfl, fin (rP K' K' (nI j2) (h.1 75 j2) (h.1 73 j2) x) (by have := rP_l K' K' (nI j2) (h.1 75 j2) (h.1 73 j2) x; omega)⟩
      · exact absurd cA c11
      · exact absurd ⟨j2, u2, rfl⟩ n2m
    | 2, _, cA =>
      refine O_2 (r := 0) (dep := 0) hs1 (by omega) (by omega) (by omega) ?_
      refine (Ac_run_48 ?_)
      refine (FC_act_41 (Nat.le_of_ble_eq_true rfl) (FC_done_c (FC_act_44 ?_)))
      have mL := mL2 (rE K' K' (nI j2) (h.1 75 j2) (h.1 73 j2) x)
      refine (FM_act_0 (FM_act_1 (FM_act_2 (Nat.le_of_ble_eq_true rfl) (FM_isLine_n mL m12 (fun j2m u2m e2m => (FM_act_5 (fun z => absurd z (by decide)) (fun _ => (FM_act_8 (FM_act_9 (FM_act_10 (FM_act_11 (Nat.le_of_ble_eq_true rfl) (FM_in_c (fun c11 => (FM_act_14 (fun _ => ?_) (fun z => absurd z (by decide)))) (fun c11 => (FM_act_14 (fun z => absurd z (by decide)) (fun _ => (FM_act_17 (FM_act_18 (FM_act_19 (Nat.le_of_ble_eq_true rfl) (FM_refused_c (FM_act_22 ?_)))))))))))))))) (fun n2m => (FM_act_5 (fun _ => (FM_act_17 (FM_act_18 (FM_act_19 (Nat.le_of_ble_eq_true rfl) (FM_refused_c (FM_act_22 ?_)))))) (fun z => absurd z (by decide))))))))
      · refine (FM_act_23 (FM_act_24 (FM_act_25 (FM_act_28 (FM_act_29 (FM_act_30 (FM_act_33 (FM_act_34 (fun _ => (FM_act_46 (FM_act_47 (FM_act_48 (fun _ => (FM_act_60 (FM_act_61 (FM_act_62 (fun z => absurd z (by decide)) (fun _ => (FM_act_65 (FM_act_66 (FM_act_67 (FM_act_68 (Nat.le_of_ble_eq_true rfl) ?_))))))))) (fun z => absurd z (by decide)))))) (fun z => absurd z (by decide))))))))))
        refine FM_endOf_c (mod (rE K' K' (nI j2) (h.1 75 j2) (h.1 73 j2) x)) (by omega) (by omega) (by omega) ?_
        refine (FM_act_71 (FM_act_80 ?_))
        exact ⟨rfl, fin (rE K' K' (nI j2) (h.1 75 j2) (h.1 73 j2) x) (by have := rE_l K' K' (nI j2) (h.1 75 j2) (h.1 73 j2) x; omega)⟩
      · exact absurd cA c11
      · exact absurd ⟨j2, u2, rfl⟩ n2m
    | 3, _, cA =>
      refine O_3 (r := 0) (dep := 0) hs1 (by omega) (by omega) (by omega) ?_
      refine (Ac_run_48 ?_)
      refine (FC_act_41 (Nat.le_of_ble_eq_true rfl) (FC_done_c (FC_act_44 ?_)))
      have mL := mL2 (rT K' K' (nI j2) (h.1 75 j2) (h.1 73 j2) x)
      refine (FM_act_0 (FM_act_1 (FM_act_2 (Nat.le_of_ble_eq_true rfl) (FM_isLine_n mL m12 (fun j2m u2m e2m => (FM_act_5 (fun z => absurd z (by decide)) (fun _ => (FM_act_8 (FM_act_9 (FM_act_10 (FM_act_11 (Nat.le_of_ble_eq_true rfl) (FM_in_c (fun c11 => (FM_act_14 (fun _ => ?_) (fun z => absurd z (by decide)))) (fun c11 => (FM_act_14 (fun z => absurd z (by decide)) (fun _ => (FM_act_17 (FM_act_18 (FM_act_19 (Nat.le_of_ble_eq_true rfl) (FM_refused_c (FM_act_22 ?_)))))))))))))))) (fun n2m => (FM_act_5 (fun _ => (FM_act_17 (FM_act_18 (FM_act_19 (Nat.le_of_ble_eq_true rfl) (FM_refused_c (FM_act_22 ?_)))))) (fun z => absurd z (by decide))))))))
      · refine (FM_act_23 (FM_act_24 (FM_act_25 (FM_act_28 (FM_act_29 (FM_act_30 (FM_act_33 (FM_act_34 (fun _ => (FM_act_46 (FM_act_47 (FM_act_48 (fun _ => (FM_act_60 (FM_act_61 (FM_act_62 (fun _ => (FM_act_74 (FM_act_75 (FM_act_76 (FM_act_77 (Nat.le_of_ble_eq_true rfl) ?_))))) (fun z => absurd z (by decide)))))) (fun z => absurd z (by decide)))))) (fun z => absurd z (by decide))))))))))
        refine FM_tellOf_c (mod (rT K' K' (nI j2) (h.1 75 j2) (h.1 73 j2) x)) (by omega) (by omega) (by omega) ?_
        refine (FM_act_80 ?_)
        exact ⟨rfl, fin (rT K' K' (nI j2) (h.1 75 j2) (h.1 73 j2) x) (by have := rT_l K' K' (nI j2) (h.1 75 j2) (h.1 73 j2) x; omega)⟩
      · exact absurd cA c11
      · exact absurd ⟨j2, u2, rfl⟩ n2m
    | _ + 4, z, _ => exact absurd z (by omega)
  · exact bad (fun z => c11 z.2)
  · exact bad (fun z => n2 z.1)
end PA
