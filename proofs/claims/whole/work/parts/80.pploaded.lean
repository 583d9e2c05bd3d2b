section PLD
set_option maxHeartbeats 2000000 in
theorem pp_loaded : PP_loaded := by
  intro X h a n ke y hi
  obtain ⟨D, w, S, L, W, K, ⟨hm1, bk, hb, hb1, hb2⟩, hc, hl, hs, hn, hw, hk, ha, hx, hh, hp⟩ := id hi
  obtain ⟨hD6, hw60, hD, hD', hwk, hwk', hwg, hwg', hpd, hln, her, hS, hL, hW, hK⟩ := id hc
  have bad : ¬ ((inI a 0 (h.1 57 1 - 1) ∧ inI n 1 9999 ∧ inI ke 0 99999) ∧ isLt y W) → E X 59 FM_loaded 0 [.ref 57, .int a, .int n, .int ke, .int y] [] h (fun r2 h2 => -1 = r2 ∧ Inv h2) := fun nA => by
    refine (FM_loaded_0 (FM_loaded_1 (FM_loaded_2 (FM_loaded_3 (FM_loaded_4 (Nat.le_of_ble_eq_true rfl) (FM_isLoad_c (fun z4 => (FM_loaded_7 (fun z => absurd z (by decide)) (fun _ => (FM_loaded_10 (FM_loaded_12 (FM_loaded_13 (FM_loaded_14 (FM_loaded_17 (FM_loaded_18 (FM_loaded_19 (Nat.le_of_ble_eq_true rfl) ?_)))))))))) (fun z4 => (FM_loaded_7 (fun _ => (FM_loaded_25 (FM_loaded_26 ?_))) (fun z => absurd z (by decide))))))))))
    · refine FM_in_w rfl (congrArg (· - 1) hW) (by have := hw.1; omega) (fun j u e => absurd ⟨z4, ⟨j, u, e⟩⟩ nA) (fun q => ?_)
      refine (FM_loaded_22 (fun z => absurd z (by decide)) (fun _ => (FM_loaded_25 (FM_loaded_26 ?_))))
      exact ⟨rfl, hi⟩
    · exact ⟨rfl, hi⟩
  have w12 := hw.1
  refine (FC_loaded_0 (FC_loaded_2 (FC_loaded_3 (FC_loaded_4 (FC_loaded_7 (FC_loaded_10 (FC_loaded_13 (FC_loaded_14 (FC_loaded_15 (Nat.le_of_ble_eq_true rfl) ?_)))))))))
  refine FC_within_w rfl (congrArg (· - 1) hw.2.1) (by omega) (fun j u e => ?_) (fun q => ?_)
  · subst e
    refine (FC_loaded_18 (fun z => absurd z (by decide)) (fun _ => (FC_loaded_21 (FC_loaded_22 (FC_loaded_23 (FC_loaded_24 (FC_loaded_25 (Nat.le_of_ble_eq_true rfl) (FC_canAskLoad_c (fun c25 => (FC_loaded_28 (fun z => absurd z (by decide)) (fun _ => (FC_loaded_31 (FC_loaded_32 (FC_loaded_35 (FC_loaded_36 (FC_loaded_39 (FC_loaded_42 (FC_loaded_43 (FC_loaded_46 (FC_loaded_49 (FC_loaded_50 (FC_loaded_51 (FC_loaded_52 (Nat.le_of_ble_eq_true rfl) ?_))))))))))))))) (fun c25 => (FC_loaded_28 (fun _ => (FC_loaded_62 (FC_loaded_63 (FC_loaded_65 (FC_loaded_67 (fun _ => (FC_loaded_83 (FC_loaded_84 ?_))) (fun z => absurd z (by decide))))))) (fun z => absurd z (by decide))))))))))))
    · obtain ⟨g, gD, rfl⟩ := (isLt_of hD (by omega)).mp c25.1
      obtain ⟨N, N1, N9, rfl⟩ := (isN_of (l := 1) (m := 9999) rfl rfl (by omega) (by omega)).mp c25.2.1
      obtain ⟨keep, -, k9, rfl⟩ := (isN_of (l := 0) (m := 99999) rfl rfl (by omega) (by omega)).mp c25.2.2
      obtain ⟨L1, M1, S1, C1, P1, -⟩ := ld_env hc hl hw gD k9
      have hk0 : ∀ w, w < W → lK h w = lP h w * 531441 + 3 ^ (11 - w) := fun w hw => rfl
      refine plan_c L1 N9 (fun H x z pt fr F V tn => ?_) (fun H fr no => ?_)
      · refine (FC_loaded_55 (fun z => absurd z (by decide)) (fun _ => (FC_loaded_58 (FC_loaded_59 (FC_loaded_63 (FC_loaded_65 (FC_loaded_67 (fun z => absurd z (by decide)) (fun _ => (FC_loaded_70 (FC_loaded_71 (FC_loaded_74 (FC_loaded_77 (FC_loaded_79n (by first | assumption | exact rfl) (by omega) (FC_loaded_80 (FC_loaded_84 ?_)))))))))))))))
        have e57 : H.1 57 = h.1 57 := fr.1 57 (by omega) (by omega) (by omega) (by omega) (by omega)
        have M2 : MdH H (lF h) (lT h) (lP h) W D g := MdH_57 M1 (by rw [e57]) (by rw [e57]) ⟨fr.1 80 (by omega) (by omega) (by omega) (by omega) (by omega), fr.1 81 (by omega) (by omega) (by omega) (by omega) (by omega), fr.1 83 (by omega) (by omega) (by omega) (by omega) (by omega)⟩
        have S2 : MdS H (lS h g keep) D g keep := by unfold MdS; rw [fr.1 58 (by omega) (by omega) (by omega) (by omega) (by omega)]; exact S1
        have C2 : ∀ w, w < W → (H.1 82 w).toInt = lC h w ∧ 0 ≤ lC h w ∧ lC h w ≤ 999 := by rw [fr.1 82 (by omega) (by omega) (by omega) (by omega) (by omega)]; exact C1
        refine (FM_loaded_0 (FM_loaded_1 (FM_loaded_2 (FM_loaded_3 (FM_loaded_4 (Nat.le_of_ble_eq_true rfl) (FM_isLoad_c (fun z4 => (FM_loaded_7 (fun z => absurd z (by decide)) (fun _ => (FM_loaded_10 (FM_loaded_12 (FM_loaded_13 (FM_loaded_14 (FM_loaded_17 (FM_loaded_18 (FM_loaded_19 (Nat.le_of_ble_eq_true rfl) ?_)))))))))) (fun z4 => (FM_loaded_7 (fun _ => (FM_loaded_25 (FM_loaded_26 ?_))) (fun z => absurd z (by decide))))))))))
        · refine FM_in_w rfl (congrArg (· - 1) (by rw [e57]; exact hW)) (by omega) (fun j' u' e' => ?_) (fun q => absurd ⟨j, u, rfl⟩ q)
          refine (FM_loaded_22 (fun _ => (FM_loaded_27 (FM_loaded_28 (FM_loaded_29 (FM_loaded_30 (FM_loaded_31 (Nat.le_of_ble_eq_true rfl) ?_)))))) (fun z => absurd z (by decide)))
          refine find_1 M2 S2 C2 N9 hk0 F V (fun H2 fr2 tn2 => ?_)
          refine (FM_loaded_34 (FM_loaded_37 (fun c37 => (FM_loaded_44 (FM_loaded_45 (FM_loaded_48 (FM_loaded_50n (by first | assumption | exact rfl) (by omega) (FM_loaded_51 ?_)))))) (fun c37 => (FM_loaded_40 (FM_loaded_41 (FM_loaded_51 ?_))))))
          · have jj : j = j' := nI_inj e' (by omega) (by omega)
            subst jj
            exact ⟨(fa_eq _ _).mpr ((tn j u).trans (tn2 j u).symm), Inv_2 hi fr fr2⟩
          · exact absurd c37 (FAR_ne M1 C1 F)
        · exact absurd ⟨(isLt_of (show H.1 57 1 = nI D by rw [e57]; exact hD') (by omega)).mpr ⟨g, gD, rfl⟩, c25.2.1, c25.2.2⟩ z4
      · refine (FC_loaded_55 (fun _ => (FC_loaded_62 (FC_loaded_63 (FC_loaded_65 (FC_loaded_67 (fun _ => (FC_loaded_83 (FC_loaded_84 ?_))) (fun z => absurd z (by decide))))))) (fun z => absurd z (by decide)))
        have e57 : H.1 57 = h.1 57 := fr.1 57 (by omega) (by omega) (by omega) (by omega) (by omega)
        have M2 : MdH H (lF h) (lT h) (lP h) W D g := MdH_57 M1 (by rw [e57]) (by rw [e57]) ⟨fr.1 80 (by omega) (by omega) (by omega) (by omega) (by omega), fr.1 81 (by omega) (by omega) (by omega) (by omega) (by omega), fr.1 83 (by omega) (by omega) (by omega) (by omega) (by omega)⟩
        have S2 : MdS H (lS h g keep) D g keep := by unfold MdS; rw [fr.1 58 (by omega) (by omega) (by omega) (by omega) (by omega)]; exact S1
        have C2 : ∀ w, w < W → (H.1 82 w).toInt = lC h w ∧ 0 ≤ lC h w ∧ lC h w ≤ 999 := by rw [fr.1 82 (by omega) (by omega) (by omega) (by omega) (by omega)]; exact C1
        refine (FM_loaded_0 (FM_loaded_1 (FM_loaded_2 (FM_loaded_3 (FM_loaded_4 (Nat.le_of_ble_eq_true rfl) (FM_isLoad_c (fun z4 => (FM_loaded_7 (fun z => absurd z (by decide)) (fun _ => (FM_loaded_10 (FM_loaded_12 (FM_loaded_13 (FM_loaded_14 (FM_loaded_17 (FM_loaded_18 (FM_loaded_19 (Nat.le_of_ble_eq_true rfl) ?_)))))))))) (fun z4 => (FM_loaded_7 (fun _ => (FM_loaded_25 (FM_loaded_26 ?_))) (fun z => absurd z (by decide))))))))))
        · refine FM_in_w rfl (congrArg (· - 1) (by rw [e57]; exact hW)) (by omega) (fun j' u' e' => ?_) (fun q => absurd ⟨j, u, rfl⟩ q)
          refine (FM_loaded_22 (fun _ => (FM_loaded_27 (FM_loaded_28 (FM_loaded_29 (FM_loaded_30 (FM_loaded_31 (Nat.le_of_ble_eq_true rfl) ?_)))))) (fun z => absurd z (by decide)))
          refine find_0 M2 S2 C2 N9 no (fun H2 fr2 => ?_)
          refine (FM_loaded_34 (FM_loaded_37 (fun c37 => (FM_loaded_44 (FM_loaded_45 (FM_loaded_48 (FM_loaded_50n (by first | assumption | exact rfl) (by omega) (FM_loaded_51 ?_)))))) (fun c37 => (FM_loaded_40 (FM_loaded_41 (FM_loaded_51 ?_))))))
          · exact absurd rfl c37
          · exact ⟨rfl, Inv_2 hi fr fr2⟩
        · exact absurd ⟨(isLt_of (show H.1 57 1 = nI D by rw [e57]; exact hD') (by omega)).mpr ⟨g, gD, rfl⟩, c25.2.1, c25.2.2⟩ z4
    · exact bad (fun z => c25 ⟨(isLt_of hD (by omega)).mpr ((isLt_of hD' (by omega)).mp z.1.1), z.1.2⟩)
  · refine (FC_loaded_18 (fun _ => (FC_loaded_62 (FC_loaded_63 (FC_loaded_65 (FC_loaded_67 (fun _ => (FC_loaded_83 (FC_loaded_84 ?_))) (fun z => absurd z (by decide))))))) (fun z => absurd z (by decide)))
    exact bad (fun z => q z.2)
end PLD
