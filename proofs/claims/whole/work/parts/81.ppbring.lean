section PB
theorem pI_rel {A B : HH} {i k : Nat} {v : Int32} {r : Nat} (e : A.1 r = B.1 r) : (pI A i k v).1 r = (pI B i k v).1 r := by
  funext b
  rw [pI1, pI1, e]
theorem isN_ofI {v : Int} (h1 : 0 ≤ v) (h2 : v ≤ 99999) : isN (Int32.ofInt v) 0 99999 := by
  have e : (Int32.ofInt v).toInt = v := Int32.toInt_ofInt_of_le (by omega) (by omega)
  have q := nI_ofq (q := Int32.ofInt v) (by omega)
  rw [e] at q
  exact ⟨v.toNat, by omega, by omega, q⟩
theorem iLand_dr {h h' : HH} {D : Nat} {s : Nat → Int} (H : iLand h 2 D 58 59 60 61 62 63 64 0 0) (e : ∀ r, 59 ≤ r → r ≤ 64 → h'.1 r = h.1 r) (a : ∀ j, j < 6 → h'.1 3 (j * 15 + 0) = Int32.ofInt (s j)) (b : ∀ j, j < 6 → h'.1 58 j = Int32.ofInt (s j)) (c : ∀ b, (∀ j, j < 6 → b ≠ j * 15 + 0) → h'.1 3 b = h.1 3 b) (D6 : D ≤ 6) (z : ∀ d, d < D → 0 ≤ s d ∧ s d ≤ 99999) : iLand h' 2 D 58 59 60 61 62 63 64 0 0 := by
  obtain ⟨H1, H2, H3, H4⟩ := H
  simp only [iLand, Nat.zero_add] at *
  rw [e 59 (by omega) (by omega), e 60 (by omega) (by omega), e 61 (by omega) (by omega), e 62 (by omega) (by omega), e 63 (by omega) (by omega), e 64 (by omega) (by omega)]
  refine ⟨fun d hd => ⟨?_, ?_, ?_⟩, fun d q hd hq => ?_, fun d hd => ⟨?_, ?_⟩, H4⟩
  · exact (a d hd).trans (b d hd).symm
  · rw [show (2 : Nat) + 1 = 3 from rfl, c (d * 15 + 1) (fun j hj => by omega)]
    exact (H1 d hd).2.1
  · rw [show (2 : Nat) + 1 = 3 from rfl, c (d * 15 + 8) (fun j hj => by omega)]
    exact (H1 d hd).2.2
  · rw [show (2 : Nat) + 1 = 3 from rfl, c (d * 15 + (2 + q)) (fun j hj => by omega), c (d * 15 + (5 + q)) (fun j hj => by omega), c (d * 15 + (9 + q)) (fun j hj => by omega), c (d * 15 + (12 + q)) (fun j hj => by omega)]
    exact H2 d q hd hq
  · rw [b d (by omega)]
    exact isN_ofI (z d hd).1 (z d hd).2
  · exact (H3 d hd).2
theorem Inv_store {h h' : HH} (e : ∀ r, r ≠ 3 → r ≠ 58 → r ≠ 44 → r ≠ 45 → r ≠ 46 → r ≠ 47 → r ≠ 50 → r ≠ 87 → r ≠ 88 → r ≠ 89 → r ≠ 90 → r ≠ 91 → h'.1 r = h.1 r) (lnd : ∀ D, D ≤ 6 → h.1 57 1 = nI D → iLand h 2 D 58 59 60 61 62 63 64 0 0 → iLand h' 2 D 58 59 60 61 62 63 64 0 0) (hi : Inv h) : Inv h' := by
  have g : ∀ r, r < 3 ∨ (3 < r ∧ r < 44) ∨ (50 < r ∧ r < 58) ∨ (58 < r ∧ r < 87) ∨ 91 < r → h'.1 r = h.1 r := fun r hr => e r (by omega) (by omega) (by omega) (by omega) (by omega) (by omega) (by omega) (by omega) (by omega) (by omega) (by omega) (by omega)
  obtain ⟨D, w, S, L, W, K, hm, hc, hl, hs, hn, hw, hk, ha, hx, hh, hp⟩ := hi
  have hl' := lnd D hc.1 hc.2.2.2.1 hl
  refine ⟨D, w, S, L, W, K, iMisc_cg ?_ hm, iCnt_cg ?_ hc, hl', iSigns_cg ?_ (fun k _ => ?_) hs, iLines_cg ?_ (fun k _ => ?_) hn, iWays_cg ?_ (fun k _ => ?_) hw, iWorks_cg ?_ (fun k _ => ?_) hk, iWas_cg ?_ ha, iAct_cg ?_ hx, iSheet_cg ?_ hh, iKept_cg (Nat.le_refl _) (Nat.le_refl _) (Nat.le_refl _) (Nat.le_refl _) ?_ (fun k _ => ?_) (fun k _ => ?_) (fun k _ => ?_) (fun k _ => ?_) hp⟩
  all_goals repeat' apply And.intro
  all_goals first | exact g _ (by omega) | exact congrFun (g _ (by omega)) _
set_option maxHeartbeats 4000000 in
theorem pp_bring : PP_bring := by
  intro X h a n ke hi
  obtain ⟨D, w, S, L, W, K, ⟨hm1, bk, hb, hb1, hb2⟩, hc, hl, hs, hn, hw, hk, ha, hx, hh, hp⟩ := id hi
  obtain ⟨hD6, hw60, hD, hD', hwk, hwk', hwg, hwg', hpd, hln, her, hS, hL, hW, hK⟩ := id hc
  have toD : ∀ {y : Int32} {H : HH}, H.1 57 1 = h.1 57 1 → (inI y 0 (H.1 57 1 - 1) ↔ inI y 0 (h.1 2 1 - 1)) := fun e => by rw [e, hD, hD']
  refine (FC_bring_0 (FC_bring_1 (FC_bring_2 (FC_bring_3 (FC_bring_4 (Nat.le_of_ble_eq_true rfl) (FC_canAskLoad_c (fun c4 => (FC_bring_7 (fun _ => ?_) (fun z => absurd z (by decide)))) (fun c4 => (FC_bring_7 (fun z => absurd z (by decide)) (fun _ => (FC_bring_10 (FC_bring_11 (FC_bring_12 (Nat.le_of_ble_eq_true rfl) (FC_refuse_c (FC_bring_15 ?_))))))))))))))
  · obtain ⟨g, gD, rfl⟩ := (isLt_of hD (by omega)).mp c4.1
    obtain ⟨N, N1, N9, rfl⟩ := (isN_of (l := 1) (m := 9999) rfl rfl (by omega) (by omega)).mp c4.2.1
    obtain ⟨keep, -, k9, rfl⟩ := (isN_of (l := 0) (m := 99999) rfl rfl (by omega) (by omega)).mp c4.2.2
    obtain ⟨L1, M1, S1, C1, P1, st⟩ := ld_env hc hl hw gD k9
    have stg := st g (by omega)
    have hk0 : ∀ w, w < W → lK h w = lP h w * 531441 + 3 ^ (11 - w) := fun w hw => rfl
    have w12 := hw.1
    refine (FC_bring_16 (FC_bring_17 (FC_bring_20 (FC_bring_23 (FC_bring_24 (FC_bring_25 (Nat.le_of_ble_eq_true rfl) (La_get_e isLa2 (by first | assumption | exact rfl) (show (0 : Int32) = nI 0 from rfl) (by omega) (by omega) (FC_bring_28 (FC_bring_29 (FC_bring_30 (FC_bring_32 (fun c32 => (FC_bring_41 (FC_bring_42 (FC_bring_45 (FC_bring_46 (FC_bring_49 (FC_bring_52 (FC_bring_53 (FC_bring_56 (FC_bring_59 (FC_bring_60 (FC_bring_61 (FC_bring_62 (Nat.le_of_ble_eq_true rfl) ?_))))))))))))) (fun c32 => (FC_bring_35 (FC_bring_36 (FC_bring_37 (Nat.le_of_ble_eq_true rfl) (FC_refuse_c (FC_bring_40 ?_)))))))))))))))))
    · refine plan_c L1 N9 (fun H x z pt fr F V tn => ?_) (fun H fr no => ?_)
      · refine (FC_bring_65 (fun _ => (FC_bring_74 (FC_bring_75 (FC_bring_78 (FC_bring_79 (FC_bring_82 (FC_bring_85 (FC_bring_86 (FC_bring_89 (FC_bring_92 (Nat.le_of_ble_eq_true rfl) ?_)))))))))) (fun z => absurd z (by decide)))
        have g1 : ∀ r, r < 44 ∨ 50 < r → H.1 r = h.1 r := fun r hr => fr.1 r (by omega) (by omega) (by omega) (by omega) (by omega)
        refine drive_c (D := D) (f := lF h) (t := lT h) (x := x) w12 hD6 (by rw [g1 11 (by omega)]; exact hw.2.1) (fun w hw => ?_) tn (fun H' I => ?_)
        · obtain ⟨f1, f2, f3, f4, f5, _⟩ := L1.2.2.2.2.2.2.1 w hw
          rw [g1 12 (by omega), g1 13 (by omega)]
          exact ⟨f1, f2, f3, f4, f5⟩
        · refine (FC_bring_95 (FC_bring_96 (FC_bring_97 (FC_bring_100 (FC_bring_101 (FC_bring_104 (FC_bring_107 (Nat.le_of_ble_eq_true rfl) ?_)))))))
          refine priceOf_c (x := x) (p := lP h) w12 (by rw [I.1 11 (by omega), g1 11 (by omega)]; exact hw.2.1) (by rw [I.1 44 (by omega)]; exact tn) (by rw [I.1 15 (by omega), g1 15 (by omega)]; exact P1) ?_
          refine (FC_bring_110 (Nat.le_of_ble_eq_true rfl) (FC_done_c (FC_bring_113 ?_)))
          have g2 : ∀ r, (0 < r ∧ r < 3) ∨ (3 < r ∧ r < 44) ∨ 50 < r → (pI H' 0 8 0).1 r = h.1 r := fun r hr => by rw [pI_r (by omega), I.1 r (by omega), g1 r (by omega)]
          refine (FM_bring_0 (FM_bring_1 (FM_bring_2 (FM_bring_3 (FM_bring_4 (Nat.le_of_ble_eq_true rfl) (FM_isLoad_c (fun z4 => (FM_bring_7 (fun _ => ?_) (fun z => absurd z (by decide)))) (fun z4 => (FM_bring_7 (fun z => absurd z (by decide)) (fun _ => (FM_bring_10 (FM_bring_11 (FM_bring_12 (Nat.le_of_ble_eq_true rfl) (FM_refused_c (FM_bring_15 ?_))))))))))))))
          · refine (FM_bring_16 (FM_bring_17 (FM_bring_20 (FM_bring_21n (by first | assumption | exact rfl) (by omega) (FM_bring_22 (FM_bring_23 (FM_bring_24 (FM_bring_26 (fun z26 => (FM_bring_35 (FM_bring_36 (FM_bring_37 (FM_bring_38 (FM_bring_39 (Nat.le_of_ble_eq_true rfl) ?_)))))) (fun z26 => (FM_bring_29 (FM_bring_30 (FM_bring_31 (Nat.le_of_ble_eq_true rfl) (FM_refused_c (FM_bring_34 ?_))))))))))))))
            · refine find_1 (MdH_57 M1 (by rw [g2 57 (by omega)]) (by rw [g2 57 (by omega)]) ⟨g2 80 (by omega), g2 81 (by omega), g2 83 (by omega)⟩) (by unfold MdS; rw [g2 58 (by omega)]; exact S1) (by rw [g2 82 (by omega)]; exact C1) N9 hk0 F V (fun H2 fr2 tn2 => ?_)
              have g3 : ∀ r, (0 < r ∧ r < 3) ∨ (3 < r ∧ r < 44) ∨ (50 < r ∧ r < 87) ∨ 91 < r → H2.1 r = h.1 r := fun r hr => by rw [fr2.1 r (by omega) (by omega) (by omega) (by omega) (by omega), g2 r (by omega)]
              refine (FM_bring_42 (FM_bring_44 (FM_bring_46 (FM_bring_49 (fun c49 => (FM_bring_58 (FM_bring_59 ?_))) (fun c49 => (FM_bring_52 (FM_bring_53 (FM_bring_54 (Nat.le_of_ble_eq_true rfl) (FM_refused_c (FM_bring_57 ?_))))))))))
              · refine bring_l (h := H2) (x := x) (f := lF h) (t := lT h) (D := D) w12 hD6 (by rw [g3 57 (by omega)]; exact hW) (fun w hw => ?_) tn2 (fun H4 I4 => ?_) W 0 H2 (by omega) ⟨fun _ _ => rfl, fun j hj => ?_⟩
                · obtain ⟨f1, f2, f3, f4, f5, _⟩ := M1.2.2.2.2.2 w hw
                  rw [g3 80 (by omega), g3 81 (by omega)]
                  exact ⟨f1, f2, f3, f4, f5⟩
                · refine ⟨rfl, Inv_store (h := pI (pI h 0 8 0) 57 0 0) (fun r n3 n58 n1 n2 n4 n5 n6 n7 n8 n9 n10 n11 => pI_rel ?_) (fun D2 D26 e2 hl2 => ?_) (Inv_refuse hi)⟩
                  · exact (I4.1 r n58).trans ((fr2.1 r n7 n8 n9 n10 n11).trans (pI_rel ((I.1 r n3).trans (fr.1 r n1 n2 n4 n5 n6))))
                  · have eD : D2 = D := nI_inj (e2.symm.trans (show (pI (pI h 0 8 0) 57 0 0).1 57 1 = nI D by rw [pI1, if_neg (by omega), pI1, if_neg (by omega)]; exact hD')) (by omega) (by omega)
                    subst eD
                    have r3 : (pI H4 57 0 0).1 3 = H'.1 3 := by rw [pI_r (by omega), I4.1 3 (by omega), fr2.1 3 (by omega) (by omega) (by omega) (by omega) (by omega), pI_r (by omega)]
                    refine iLand_dr (s := fun j => (h.1 58 j).toInt + sf (lF h) (lT h) x W j) hl2 (fun r ra rb => ?_) (fun j hj => ?_) (fun j hj => ?_) (fun b hb => ?_) D26 (fun d hd => ?_)
                    · rw [pI_r (by omega), I4.1 r (by omega), g3 r (by omega), pI_r (by omega), pI_r (by omega)]
                    · rw [r3, I.2.1 j hj, g1 3 (by omega), st j hj]
                    · rw [pI_r (by omega), I4.2 j hj, g3 58 (by omega)]
                    · rw [r3, I.2.2 b hb, g1 3 (by omega), pI_r (by omega), pI_r (by omega)]
                    · have nn : z d + sf (lF h) (lT h) x W d = if d = g then (N : Int) else 0 := F.2.2 d hd
                      have zz := F.2.1 d hd
                      have sz := S1.2 d hd
                      show 0 ≤ (h.1 58 d).toInt + sf (lF h) (lT h) x W d ∧ (h.1 58 d).toInt + sf (lF h) (lT h) x W d ≤ 99999
                      by_cases dg : d = g
                      · subst dg
                        rw [if_pos rfl] at nn
                        have y0 := sz.2.2.2.1 rfl
                        have c33 : h.1 58 d + nI N ≤ 99999 := by rw [← stg]; exact c32
                        have c34 := (fa_le _ _).mp c33
                        rw [i32_add (by rw [nI_toInt (by omega)]; omega) (by rw [nI_toInt (by omega)]; omega), nI_toInt (by omega), show (99999 : Int32).toInt = 99999 by decide] at c34
                        omega
                      · rw [if_neg dg] at nn
                        by_cases lk : (h.1 58 d).toInt ≤ keep
                        · have := sz.2.2.2.2.1 dg lk
                          omega
                        · have := sz.2.2.2.2.2 dg (by omega)
                          omega
                · rw [show sf (lF h) (lT h) x 0 j = 0 from rfl, Int.add_zero, Int32.ofInt_toInt]
              · exact absurd c49 (FAR_ne M1 C1 F)
            · rw [g2 58 (by omega), ← stg] at z26
              exact absurd c32 z26
          · exact absurd ⟨(toD (by rw [g2 57 (by omega)])).mpr c4.1, c4.2⟩ z4
      · refine (FC_bring_65 (fun z => absurd z (by decide)) (fun _ => (FC_bring_68 (FC_bring_69 (FC_bring_70 (Nat.le_of_ble_eq_true rfl) (FC_refuse_c (FC_bring_73 ?_)))))))
        have g2 : ∀ r, (0 < r ∧ r < 44) ∨ 50 < r → (pI H 0 8 3).1 r = h.1 r := fun r hr => by rw [pI_r (by omega), fr.1 r (by omega) (by omega) (by omega) (by omega) (by omega)]
        refine (FM_bring_0 (FM_bring_1 (FM_bring_2 (FM_bring_3 (FM_bring_4 (Nat.le_of_ble_eq_true rfl) (FM_isLoad_c (fun z4 => (FM_bring_7 (fun _ => ?_) (fun z => absurd z (by decide)))) (fun z4 => (FM_bring_7 (fun z => absurd z (by decide)) (fun _ => (FM_bring_10 (FM_bring_11 (FM_bring_12 (Nat.le_of_ble_eq_true rfl) (FM_refused_c (FM_bring_15 ?_))))))))))))))
        · refine (FM_bring_16 (FM_bring_17 (FM_bring_20 (FM_bring_21n (by first | assumption | exact rfl) (by omega) (FM_bring_22 (FM_bring_23 (FM_bring_24 (FM_bring_26 (fun z26 => (FM_bring_35 (FM_bring_36 (FM_bring_37 (FM_bring_38 (FM_bring_39 (Nat.le_of_ble_eq_true rfl) ?_)))))) (fun z26 => (FM_bring_29 (FM_bring_30 (FM_bring_31 (Nat.le_of_ble_eq_true rfl) (FM_refused_c (FM_bring_34 ?_))))))))))))))
          · refine find_0 (MdH_57 M1 (by rw [g2 57 (by omega)]) (by rw [g2 57 (by omega)]) ⟨g2 80 (by omega), g2 81 (by omega), g2 83 (by omega)⟩) (by unfold MdS; rw [g2 58 (by omega)]; exact S1) (by rw [g2 82 (by omega)]; exact C1) N9 no (fun H2 fr2 => ?_)
            refine (FM_bring_42 (FM_bring_44 (FM_bring_46 (FM_bring_49 (fun c49 => (FM_bring_58 (FM_bring_59 ?_))) (fun c49 => (FM_bring_52 (FM_bring_53 (FM_bring_54 (Nat.le_of_ble_eq_true rfl) (FM_refused_c (FM_bring_57 ?_))))))))))
            · exact absurd rfl c49
            · refine ⟨rfl, Inv_ld (h := pI (pI h 0 8 3) 57 0 3) (fun r n1 n2 n4 n5 n6 n7 n8 n9 n10 n11 => pI_rel ?_) (Inv_refuse hi)⟩
              exact (fr2.1 r n7 n8 n9 n10 n11).trans (pI_rel (fr.1 r n1 n2 n4 n5 n6))
          · rw [g2 58 (by omega), ← stg] at z26
            exact absurd c32 z26
        · exact absurd ⟨(toD (by rw [g2 57 (by omega)])).mpr c4.1, c4.2⟩ z4
    · refine (FM_bring_0 (FM_bring_1 (FM_bring_2 (FM_bring_3 (FM_bring_4 (Nat.le_of_ble_eq_true rfl) (FM_isLoad_c (fun z4 => (FM_bring_7 (fun _ => ?_) (fun z => absurd z (by decide)))) (fun z4 => (FM_bring_7 (fun z => absurd z (by decide)) (fun _ => (FM_bring_10 (FM_bring_11 (FM_bring_12 (Nat.le_of_ble_eq_true rfl) (FM_refused_c (FM_bring_15 ?_))))))))))))))
      · refine (FM_bring_16 (FM_bring_17 (FM_bring_20 (FM_bring_21n (by first | assumption | exact rfl) (by omega) (FM_bring_22 (FM_bring_23 (FM_bring_24 (FM_bring_26 (fun z26 => (FM_bring_35 (FM_bring_36 (FM_bring_37 (FM_bring_38 (FM_bring_39 (Nat.le_of_ble_eq_true rfl) ?_)))))) (fun z26 => (FM_bring_29 (FM_bring_30 (FM_bring_31 (Nat.le_of_ble_eq_true rfl) (FM_refused_c (FM_bring_34 ?_))))))))))))))
        · rw [pI_r (by omega), ← stg] at z26
          exact absurd z26 c32
        · exact ⟨rfl, Inv_refuse hi⟩
      · exact absurd ⟨(toD (by rw [pI_r (by omega)])).mpr c4.1, c4.2⟩ z4
  · refine (FM_bring_0 (FM_bring_1 (FM_bring_2 (FM_bring_3 (FM_bring_4 (Nat.le_of_ble_eq_true rfl) (FM_isLoad_c (fun z4 => (FM_bring_7 (fun _ => ?_) (fun z => absurd z (by decide)))) (fun z4 => (FM_bring_7 (fun z => absurd z (by decide)) (fun _ => (FM_bring_10 (FM_bring_11 (FM_bring_12 (Nat.le_of_ble_eq_true rfl) (FM_refused_c (FM_bring_15 ?_))))))))))))))
    · exact absurd ⟨(toD (by rw [pI_r (by omega)])).mp z4.1, z4.2⟩ c4
    · exact ⟨rfl, Inv_refuse hi⟩
end PB
