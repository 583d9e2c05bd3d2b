section PP4
theorem iLines_end {h h' : HH} {o L j : Nat} {v : Int32} (hv : isN v 0 60) (e1 : h'.1 9 1 = h.1 9 1) (e2 : ∀ k, h'.1 10 k = if k = j * 9 + 8 then v else h.1 10 k) (e3 : ∀ k, h'.1 79 k = if k = j then v else h.1 79 k) (er : h'.1 71 = h.1 71 ∧ h'.1 72 = h.1 72 ∧ h'.1 73 = h.1 73 ∧ h'.1 74 = h.1 74 ∧ h'.1 75 = h.1 75 ∧ h'.1 76 = h.1 76 ∧ h'.1 77 = h.1 77 ∧ h'.1 78 = h.1 78) (H : iLines h 9 L 79) : iLines h' 9 L 79 := by
  obtain ⟨h1, h2, h3⟩ := H
  obtain ⟨r1, r2, r3, r4, r5, r6, r7, r8⟩ := er
  refine ⟨h1, by rw [e1]; exact h2, fun l hl => ?_⟩
  obtain ⟨⟨a1, a2, a3, a4, a5, a6, a7, a8⟩, b0, b1, b2, b3, b4, b5, b6, b7, b8⟩ := h3 l hl
  refine ⟨⟨by rw [r1]; exact a1, by rw [r2]; exact a2, by rw [r3]; exact a3, by rw [r4]; exact a4, by rw [r6]; exact a5, by rw [r7]; exact a6, by rw [r8]; exact a7, ?_⟩, ?_, ?_, ?_, ?_, ?_, ?_, ?_, ?_, ?_⟩
  · rw [e3]; split
    · exact Or.inr hv
    · exact a8
  · rw [r1, e2, if_neg (by omega)]; exact b0
  · rw [r2, e2, if_neg (by omega)]; exact b1
  · rw [r3, e2, if_neg (by omega)]; exact b2
  · rw [r4, e2, if_neg (by omega)]; exact b3
  · rw [r5, e2, if_neg (by omega)]; exact b4
  · rw [r6, e2, if_neg (by omega)]; exact b5
  · rw [r7, e2, if_neg (by omega)]; exact b6
  · rw [r8, e2, if_neg (by omega)]; exact b7
  · rw [e2, e3]
    by_cases z : l = j
    · rw [if_pos (by omega), if_pos z]
    · rw [if_neg (by omega), if_neg z]; exact b8
set_option maxHeartbeats 1000000 in
theorem pp_end : PP_end := by
  intro X h a hi
  obtain ⟨D, w, S, L, W, K, ⟨hm1, bk, hb, hb1, hb2⟩, hc, hl, hs, hn, hw, hk, ha, hx, hh, hp⟩ := id hi
  obtain ⟨hD6, hw60, hD, hD', hwk, hwk', hwg, hwg', hpd, hln, her, hS, hL, hW, hK⟩ := id hc
  have mD := hD'; have m6 := hD6; have h6 := hD6; have mL := hL; have hL := hn.2.1; have m12 := hn.1; have h12 := hn.1
  refine FC_end_s hL h12 (fun j u1 e1 z1 => ?_) (fun j u1 e1 z1 => ?_) (fun nA => ?_)
  · refine FM_end_s (L := L) (by simpa [pI1] using mL) h12 (fun j' v1 f1 z2 => ?_) (fun j' v1 f1 z2 => ?_) (fun nA => absurd ⟨j, u1, e1⟩ nA)
    · obtain rfl := nI_inj (e1.symm.trans f1) (by omega) (by omega)
      refine ⟨by simp [pI1, hwk, hwk'], ?_⟩
      exact ⟨D, w, S, L, W, K, ⟨by simp [pI1], bk, hb, by simp [pI1, hb1], by simp [pI1, hb2]⟩, iCnt_cg (by simp [pI1]) hc, iLand_cg (by simp [pI_r]) hl, iSigns_cg (by simp [pI_r]) (fun k _ => by simp [pI_r]) hs, iLines_end (o := 9) (j := j) (v := nI w) ⟨w, Nat.zero_le _, hw60, rfl⟩ (by simp [pI1]) (fun k => by simp [pI1, hwk]) (fun k => by simp [pI1, hwk']) (by simp [pI_r]) hn, iWays_cg (by simp [pI_r, pI1]) (fun k _ => by simp [pI_r]) hw, iWorks_cg (by simp [pI_r, pI1]) (fun k _ => by simp [pI_r]) hk, iWas_cg (by simp [pI_r]) ha, iAct_cg (by simp [pI_r, pI1]) hx, iSheet_cg (by simp [pI_r]) hh, iKept_cg (Nat.le_refl _) (Nat.le_refl _) (Nat.le_refl _) (Nat.le_refl _) (by simp [pI_r, pI1]) (fun k _ => by simp [pI_r]) (fun k _ => by simp [pI_r]) (fun k _ => by simp [pI_r]) (fun k _ => by simp [pI_r]) hp⟩
    · obtain rfl := nI_inj (e1.symm.trans f1) (by omega) (by omega)
      exact absurd ((hn.2.2 j u1).2.2.2.2.2.2.2.2.2.symm.trans z1) (by simpa [pI1] using z2)
  · refine FM_end_s (L := L) (by simpa [pI1] using mL) h12 (fun j' v1 f1 z2 => ?_) (fun j' v1 f1 z2 => ?_) (fun nA => absurd ⟨j, u1, e1⟩ nA)
    · obtain rfl := nI_inj (e1.symm.trans f1) (by omega) (by omega)
      exact absurd ((hn.2.2 j u1).2.2.2.2.2.2.2.2.2.trans (by simpa [pI1] using z2)) z1
    · exact ⟨rfl, Inv_refuse hi⟩
  · exact FM_end_s (L := L) (by simpa [pI1] using mL) h12 (fun j' v1 f1 z2 => absurd ⟨j', v1, f1⟩ nA) (fun j' v1 f1 z2 => absurd ⟨j', v1, f1⟩ nA) (fun _ => ⟨rfl, Inv_refuse hi⟩)
set_option maxHeartbeats 2000000 in
theorem pp_lineTold : PP_lineTold := by
  intro X h a n hi
  obtain ⟨D, w, S, L, W, K, ⟨hm1, bk, hb, hb1, hb2⟩, hc, hl, hs, hn, hw, hk, ha, hx, hh, hp⟩ := id hi
  obtain ⟨hD6, hw60, hD, hD', hwk, hwk', hwg, hwg', hpd, hln, her, hS, hL, hW, hK⟩ := id hc
  have mD := hD'; have m6 := hD6; have h6 := hD6; have mL := hL; have hL := hn.2.1; have m12 := hn.1; have h12 := hn.1
  refine (FC_lineTold_0 (FC_lineTold_1 (FC_lineTold_2 (Nat.le_of_ble_eq_true rfl) (FC_isLine_n hL h12 (fun j2 u2 e2 => (FC_lineTold_5 (fun z => absurd z (by decide)) (fun _ => (FC_lineTold_8 (FC_lineTold_9 (FC_lineTold_10 (FC_lineTold_12 (Nat.le_of_ble_eq_true rfl) (FC_within_n (show (0 : Int32) = nI 0 from rfl) (show (8 : Int32) = nI 8 from rfl) (by omega) (by omega) (fun j12 l12 u12 e12 => (FC_lineTold_15 (fun _ => (FC_lineTold_22 (FC_lineTold_23 (FC_lineTold_26 (FC_lineTold_29 (FC_lineTold_30 (FC_lineTold_31 (Nat.le_of_ble_eq_true rfl) (Co_get_c (by first | assumption | exact rfl) (by first | assumption | exact rfl) (by omega) (by omega) (FC_lineTold_34 ?_))))))))) (fun z => absurd z (by decide)))) (fun n12 => (FC_lineTold_15 (fun z => absurd z (by decide)) (fun _ => (FC_lineTold_18 (FC_lineTold_21 ?_))))))))))))) (fun n2 => (FC_lineTold_5 (fun _ => (FC_lineTold_18 (FC_lineTold_21 ?_))) (fun z => absurd z (by decide))))))))
  · refine (FM_lineTold_0 (FM_lineTold_1 (FM_lineTold_2 (Nat.le_of_ble_eq_true rfl) (FM_isLine_n mL m12 (fun j2m u2m e2m => (FM_lineTold_5 (fun _ => ?_) (fun z => absurd z (by decide)))) (fun n2m => (FM_lineTold_5 (fun z => absurd z (by decide)) (fun _ => (FM_lineTold_8 (FM_lineTold_11 ?_)))))))))
    · obtain rfl := nI_inj (e2.symm.trans e2m) (by omega) (by omega)
      obtain ⟨⟨a1, a2, a3, a4, a5, a6, a7, a8⟩, b0, b1, b2, b3, b4, b5, b6, b7, b8⟩ := hn.2.2 j2 u2
      subst e12
      match j12, u12 with
      | 0, _ =>
        refine (FM_lineTold_12 (FM_lineTold_13 (fun _ => (FM_lineTold_64 (FM_lineTold_65 (FM_lineTold_68 (FM_lineTold_69n (by first | assumption | exact rfl) (by omega) (FM_lineTold_70 ?_)))))) (fun z => absurd z (by decide)) (fun z => absurd z (by decide)) (fun z => absurd z (by decide)) (fun z => absurd z (by decide)) (fun z => absurd z (by decide)) (fun z => absurd z (by decide)) (fun z => absurd z (by decide)) (fun z => absurd z (by decide)) (fun z => absurd z (by decide))))
        exact ⟨b0, hi⟩
      | 1, _ =>
        refine (FM_lineTold_12 (FM_lineTold_13 (fun z => absurd z (by decide)) (fun _ => (FM_lineTold_71 (FM_lineTold_72 (FM_lineTold_75 (FM_lineTold_76n (by first | assumption | exact rfl) (by omega) (FM_lineTold_77 ?_)))))) (fun z => absurd z (by decide)) (fun z => absurd z (by decide)) (fun z => absurd z (by decide)) (fun z => absurd z (by decide)) (fun z => absurd z (by decide)) (fun z => absurd z (by decide)) (fun z => absurd z (by decide)) (fun z => absurd z (by decide))))
        exact ⟨b1, hi⟩
      | 2, _ =>
        refine (FM_lineTold_12 (FM_lineTold_13 (fun z => absurd z (by decide)) (fun z => absurd z (by decide)) (fun _ => (FM_lineTold_78 (FM_lineTold_79 (FM_lineTold_82 (FM_lineTold_83n (by first | assumption | exact rfl) (by omega) (FM_lineTold_84 ?_)))))) (fun z => absurd z (by decide)) (fun z => absurd z (by decide)) (fun z => absurd z (by decide)) (fun z => absurd z (by decide)) (fun z => absurd z (by decide)) (fun z => absurd z (by decide)) (fun z => absurd z (by decide))))
        exact ⟨b2, hi⟩
      | 3, _ =>
        refine (FM_lineTold_12 (FM_lineTold_13 (fun z => absurd z (by decide)) (fun z => absurd z (by decide)) (fun z => absurd z (by decide)) (fun _ => (FM_lineTold_85 (FM_lineTold_86 (FM_lineTold_89 (FM_lineTold_90n (by first | assumption | exact rfl) (by omega) (FM_lineTold_91 ?_)))))) (fun z => absurd z (by decide)) (fun z => absurd z (by decide)) (fun z => absurd z (by decide)) (fun z => absurd z (by decide)) (fun z => absurd z (by decide)) (fun z => absurd z (by decide))))
        exact ⟨b3, hi⟩
      | 4, _ =>
        refine (FM_lineTold_12 (FM_lineTold_13 (fun z => absurd z (by decide)) (fun z => absurd z (by decide)) (fun z => absurd z (by decide)) (fun z => absurd z (by decide)) (fun _ => (FM_lineTold_92 (FM_lineTold_93 (FM_lineTold_96 (FM_lineTold_97n (by first | assumption | exact rfl) (by omega) (FM_lineTold_98 ?_)))))) (fun z => absurd z (by decide)) (fun z => absurd z (by decide)) (fun z => absurd z (by decide)) (fun z => absurd z (by decide)) (fun z => absurd z (by decide))))
        exact ⟨b4, hi⟩
      | 5, _ =>
        refine (FM_lineTold_12 (FM_lineTold_13 (fun z => absurd z (by decide)) (fun z => absurd z (by decide)) (fun z => absurd z (by decide)) (fun z => absurd z (by decide)) (fun z => absurd z (by decide)) (fun _ => (FM_lineTold_99 (FM_lineTold_100 (FM_lineTold_103 (FM_lineTold_104n (by first | assumption | exact rfl) (by omega) (FM_lineTold_105 (fun c105 => (FM_lineTold_112 (FM_lineTold_113 ?_))) (fun c105 => (FM_lineTold_108 (FM_lineTold_109 (FM_lineTold_113 ?_)))))))))) (fun z => absurd z (by decide)) (fun z => absurd z (by decide)) (fun z => absurd z (by decide)) (fun z => absurd z (by decide))))
        · obtain ⟨q, q1, q2, q3⟩ := a5
          match q, q2 with
          | 0, _ => exact ⟨b5.trans q3, hi⟩
          | 1, _ => exact absurd (q3.symm.trans c105) (by decide)
          | _ + 2, z => exact absurd z (by omega)
        · obtain ⟨q, q1, q2, q3⟩ := a5
          match q, q2 with
          | 0, _ => exact absurd q3 (by assumption)
          | 1, _ => exact ⟨b5.trans q3, hi⟩
          | _ + 2, z => exact absurd z (by omega)
      | 6, _ =>
        refine (FM_lineTold_12 (FM_lineTold_13 (fun z => absurd z (by decide)) (fun z => absurd z (by decide)) (fun z => absurd z (by decide)) (fun z => absurd z (by decide)) (fun z => absurd z (by decide)) (fun z => absurd z (by decide)) (fun _ => (FM_lineTold_114 (FM_lineTold_115 (FM_lineTold_118 (FM_lineTold_119n (by first | assumption | exact rfl) (by omega) (FM_lineTold_120 ?_)))))) (fun z => absurd z (by decide)) (fun z => absurd z (by decide)) (fun z => absurd z (by decide))))
        exact ⟨b6, hi⟩
      | 7, _ =>
        refine (FM_lineTold_12 (FM_lineTold_13 (fun z => absurd z (by decide)) (fun z => absurd z (by decide)) (fun z => absurd z (by decide)) (fun z => absurd z (by decide)) (fun z => absurd z (by decide)) (fun z => absurd z (by decide)) (fun z => absurd z (by decide)) (fun _ => (FM_lineTold_121 (FM_lineTold_122 (FM_lineTold_125 (FM_lineTold_126n (by first | assumption | exact rfl) (by omega) (FM_lineTold_127 ?_)))))) (fun z => absurd z (by decide)) (fun z => absurd z (by decide))))
        exact ⟨b7, hi⟩
      | 8, _ =>
        refine (FM_lineTold_12 (FM_lineTold_13 (fun z => absurd z (by decide)) (fun z => absurd z (by decide)) (fun z => absurd z (by decide)) (fun z => absurd z (by decide)) (fun z => absurd z (by decide)) (fun z => absurd z (by decide)) (fun z => absurd z (by decide)) (fun z => absurd z (by decide)) (fun _ => (FM_lineTold_128 (FM_lineTold_129 (FM_lineTold_132 (FM_lineTold_133n (by first | assumption | exact rfl) (by omega) (FM_lineTold_134 ?_)))))) (fun z => absurd z (by decide))))
        exact ⟨b8, hi⟩
      | _ + 9, z => exact absurd z (by omega)
    · exact absurd ⟨j2, u2, e2⟩ n2m
  · refine (FM_lineTold_0 (FM_lineTold_1 (FM_lineTold_2 (Nat.le_of_ble_eq_true rfl) (FM_isLine_n mL m12 (fun j2m u2m e2m => (FM_lineTold_5 (fun _ => ?_) (fun z => absurd z (by decide)))) (fun n2m => (FM_lineTold_5 (fun z => absurd z (by decide)) (fun _ => (FM_lineTold_8 (FM_lineTold_11 ?_)))))))))
    · refine FM_lineTold_12 (FM_lineTold_13 (fun c => ?_) (fun c => ?_) (fun c => ?_) (fun c => ?_) (fun c => ?_) (fun c => ?_) (fun c => ?_) (fun c => ?_) (fun c => ?_) (fun c => ?_))
      all_goals first | (refine absurd ?_ n12; subst c; first | exact ⟨0, Nat.zero_le _, by omega, rfl⟩ | exact ⟨1, Nat.zero_le _, by omega, rfl⟩ | exact ⟨2, Nat.zero_le _, by omega, rfl⟩ | exact ⟨3, Nat.zero_le _, by omega, rfl⟩ | exact ⟨4, Nat.zero_le _, by omega, rfl⟩ | exact ⟨5, Nat.zero_le _, by omega, rfl⟩ | exact ⟨6, Nat.zero_le _, by omega, rfl⟩ | exact ⟨7, Nat.zero_le _, by omega, rfl⟩ | exact ⟨8, Nat.zero_le _, by omega, rfl⟩) | skip
      refine (FM_lineTold_135 (FM_lineTold_138 ?_))
      exact ⟨rfl, hi⟩
    · exact ⟨rfl, hi⟩
  · refine (FM_lineTold_0 (FM_lineTold_1 (FM_lineTold_2 (Nat.le_of_ble_eq_true rfl) (FM_isLine_n mL m12 (fun j2m u2m e2m => (FM_lineTold_5 (fun _ => ?_) (fun z => absurd z (by decide)))) (fun n2m => (FM_lineTold_5 (fun z => absurd z (by decide)) (fun _ => (FM_lineTold_8 (FM_lineTold_11 ?_)))))))))
    · exact absurd ⟨j2m, u2m, e2m⟩ n2
    · exact ⟨rfl, hi⟩
set_option maxHeartbeats 2000000 in
theorem pp_count : PP_count := by
  intro X h n hi
  obtain ⟨D, w, S, L, W, K, ⟨hm1, bk, hb, hb1, hb2⟩, hc, hl, hs, hn, hw, hk, ha, hx, hh, hp⟩ := id hi
  obtain ⟨hD6, hw60, hD, hD', hwk, hwk', hwg, hwg', hpd, hln, her, hS, hL, hW, hK⟩ := id hc
  obtain ⟨r, hr, hr1, hr2, hr3⟩ := id hx
  refine (FC_count_0 (FC_count_1 (fun c1 => (FC_count_60 (FC_count_61 (FC_count_64 (FC_count_67 (FC_count_70 ?_)))))) (fun c1 => (FC_count_71 (FC_count_72 (FC_count_75 (FC_count_78 ?_))))) (fun c1 => (FC_count_79 (FC_count_80 (FC_count_83 (FC_count_86 (FC_count_89 ?_)))))) (fun c1 => (FC_count_90 (FC_count_91 (FC_count_94 (FC_count_97 (FC_count_100 ?_)))))) (fun c1 => (FC_count_101 (FC_count_102 (FC_count_105 (FC_count_108 (FC_count_111 ?_)))))) (fun c1 => (FC_count_112 (FC_count_113 (FC_count_116 (FC_count_119 (FC_count_122 ?_)))))) (fun c1 => (FC_count_123 (FC_count_124 (FC_count_127 (FC_count_130 (FC_count_133 ?_)))))) (fun c1 => (FC_count_134 (FC_count_135 (FC_count_138 (FC_count_141 (FC_count_144 ?_)))))) (fun c1 => (FC_count_145 (FC_count_146 (FC_count_149 (FC_count_152 (FC_count_155 ?_)))))) (fun c1 => (FC_count_156 (FC_count_157 (FC_count_160 (FC_count_163 (FC_count_166 ?_)))))) (fun c1 => (FC_count_167 (FC_count_168 (FC_count_171 (FC_count_174 ?_))))) (fun c1 => (FC_count_175 (FC_count_176 ?_)))))
  · subst c1
    refine (FM_count_0 (FM_count_1 (fun _ => (FM_count_60 (FM_count_61 (FM_count_64 ?_)))) (fun z => absurd z (by decide)) (fun z => absurd z (by decide)) (fun z => absurd z (by decide)) (fun z => absurd z (by decide)) (fun z => absurd z (by decide)) (fun z => absurd z (by decide)) (fun z => absurd z (by decide)) (fun z => absurd z (by decide)) (fun z => absurd z (by decide)) (fun z => absurd z (by decide)) (fun z => absurd z (by decide))))
    exact ⟨hD.trans hD'.symm, hi⟩
  · subst c1
    refine (FM_count_0 (FM_count_1 (fun z => absurd z (by decide)) (fun _ => (FM_count_65 (FM_count_66 (FM_count_69 ?_)))) (fun z => absurd z (by decide)) (fun z => absurd z (by decide)) (fun z => absurd z (by decide)) (fun z => absurd z (by decide)) (fun z => absurd z (by decide)) (fun z => absurd z (by decide)) (fun z => absurd z (by decide)) (fun z => absurd z (by decide)) (fun z => absurd z (by decide)) (fun z => absurd z (by decide))))
    exact ⟨hwk.trans hwk'.symm, hi⟩
  · subst c1
    refine (FM_count_0 (FM_count_1 (fun z => absurd z (by decide)) (fun z => absurd z (by decide)) (fun _ => (FM_count_70 (FM_count_71 (FM_count_74 ?_)))) (fun z => absurd z (by decide)) (fun z => absurd z (by decide)) (fun z => absurd z (by decide)) (fun z => absurd z (by decide)) (fun z => absurd z (by decide)) (fun z => absurd z (by decide)) (fun z => absurd z (by decide)) (fun z => absurd z (by decide)) (fun z => absurd z (by decide))))
    exact ⟨hs.2.1.trans hS.symm, hi⟩
  · subst c1
    refine (FM_count_0 (FM_count_1 (fun z => absurd z (by decide)) (fun z => absurd z (by decide)) (fun z => absurd z (by decide)) (fun _ => (FM_count_75 (FM_count_76 (FM_count_79 ?_)))) (fun z => absurd z (by decide)) (fun z => absurd z (by decide)) (fun z => absurd z (by decide)) (fun z => absurd z (by decide)) (fun z => absurd z (by decide)) (fun z => absurd z (by decide)) (fun z => absurd z (by decide)) (fun z => absurd z (by decide))))
    exact ⟨hn.2.1.trans hL.symm, hi⟩
  · subst c1
    refine (FM_count_0 (FM_count_1 (fun z => absurd z (by decide)) (fun z => absurd z (by decide)) (fun z => absurd z (by decide)) (fun z => absurd z (by decide)) (fun _ => (FM_count_80 (FM_count_81 (FM_count_84 ?_)))) (fun z => absurd z (by decide)) (fun z => absurd z (by decide)) (fun z => absurd z (by decide)) (fun z => absurd z (by decide)) (fun z => absurd z (by decide)) (fun z => absurd z (by decide)) (fun z => absurd z (by decide))))
    exact ⟨hw.2.1.trans hW.symm, hi⟩
  · subst c1
    refine (FM_count_0 (FM_count_1 (fun z => absurd z (by decide)) (fun z => absurd z (by decide)) (fun z => absurd z (by decide)) (fun z => absurd z (by decide)) (fun z => absurd z (by decide)) (fun _ => (FM_count_85 (FM_count_86 (FM_count_89 ?_)))) (fun z => absurd z (by decide)) (fun z => absurd z (by decide)) (fun z => absurd z (by decide)) (fun z => absurd z (by decide)) (fun z => absurd z (by decide)) (fun z => absurd z (by decide))))
    exact ⟨hk.2.1.trans hK.symm, hi⟩
  · subst c1
    refine (FM_count_0 (FM_count_1 (fun z => absurd z (by decide)) (fun z => absurd z (by decide)) (fun z => absurd z (by decide)) (fun z => absurd z (by decide)) (fun z => absurd z (by decide)) (fun z => absurd z (by decide)) (fun _ => (FM_count_90 (FM_count_91 (FM_count_94 ?_)))) (fun z => absurd z (by decide)) (fun z => absurd z (by decide)) (fun z => absurd z (by decide)) (fun z => absurd z (by decide)) (fun z => absurd z (by decide))))
    exact ⟨hpd, hi⟩
  · subst c1
    refine (FM_count_0 (FM_count_1 (fun z => absurd z (by decide)) (fun z => absurd z (by decide)) (fun z => absurd z (by decide)) (fun z => absurd z (by decide)) (fun z => absurd z (by decide)) (fun z => absurd z (by decide)) (fun z => absurd z (by decide)) (fun _ => (FM_count_95 (FM_count_96 (FM_count_99 ?_)))) (fun z => absurd z (by decide)) (fun z => absurd z (by decide)) (fun z => absurd z (by decide)) (fun z => absurd z (by decide))))
    exact ⟨hln, hi⟩
  · subst c1
    refine (FM_count_0 (FM_count_1 (fun z => absurd z (by decide)) (fun z => absurd z (by decide)) (fun z => absurd z (by decide)) (fun z => absurd z (by decide)) (fun z => absurd z (by decide)) (fun z => absurd z (by decide)) (fun z => absurd z (by decide)) (fun z => absurd z (by decide)) (fun _ => (FM_count_100 (FM_count_101 (FM_count_104 ?_)))) (fun z => absurd z (by decide)) (fun z => absurd z (by decide)) (fun z => absurd z (by decide))))
    exact ⟨her, hi⟩
  · subst c1
    refine (FM_count_0 (FM_count_1 (fun z => absurd z (by decide)) (fun z => absurd z (by decide)) (fun z => absurd z (by decide)) (fun z => absurd z (by decide)) (fun z => absurd z (by decide)) (fun z => absurd z (by decide)) (fun z => absurd z (by decide)) (fun z => absurd z (by decide)) (fun z => absurd z (by decide)) (fun _ => (FM_count_105 (FM_count_106 (FM_count_109 ?_)))) (fun z => absurd z (by decide)) (fun z => absurd z (by decide))))
    exact ⟨hwg, hi⟩
  · subst c1
    refine (FM_count_0 (FM_count_1 (fun z => absurd z (by decide)) (fun z => absurd z (by decide)) (fun z => absurd z (by decide)) (fun z => absurd z (by decide)) (fun z => absurd z (by decide)) (fun z => absurd z (by decide)) (fun z => absurd z (by decide)) (fun z => absurd z (by decide)) (fun z => absurd z (by decide)) (fun z => absurd z (by decide)) (fun _ => (FM_count_110 (FM_count_111 (FM_count_114 ?_)))) (fun z => absurd z (by decide))))
    exact ⟨hr1.trans hr2.symm, hi⟩
  · refine (FM_count_0 (FM_count_1 (fun q1 => (FM_count_60 (FM_count_61 (FM_count_64 ?_)))) (fun q1 => (FM_count_65 (FM_count_66 (FM_count_69 ?_)))) (fun q1 => (FM_count_70 (FM_count_71 (FM_count_74 ?_)))) (fun q1 => (FM_count_75 (FM_count_76 (FM_count_79 ?_)))) (fun q1 => (FM_count_80 (FM_count_81 (FM_count_84 ?_)))) (fun q1 => (FM_count_85 (FM_count_86 (FM_count_89 ?_)))) (fun q1 => (FM_count_90 (FM_count_91 (FM_count_94 ?_)))) (fun q1 => (FM_count_95 (FM_count_96 (FM_count_99 ?_)))) (fun q1 => (FM_count_100 (FM_count_101 (FM_count_104 ?_)))) (fun q1 => (FM_count_105 (FM_count_106 (FM_count_109 ?_)))) (fun q1 => (FM_count_110 (FM_count_111 (FM_count_114 ?_)))) (fun q1 => (FM_count_115 (FM_count_116 ?_)))))
    all_goals first | exact ⟨rfl, hi⟩ | (exfalso; subst q1; revert c1; decide)
end PP4
