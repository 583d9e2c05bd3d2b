section PP3
set_option maxHeartbeats 2000000 in
theorem pp_told : PP_told := by
  intro X h a n hi
  obtain ⟨D, w, S, L, W, K, ⟨hm1, bk, hb, hb1, hb2⟩, hc, hl, hs, hn, hw, hk, ha, hx, hh, hp⟩ := id hi
  obtain ⟨hD6, hw60, hD, hD', hwk, hwk', hwg, hwg', hpd, hln, her, hS, hL, hW, hK⟩ := id hc
  have mD := hD'; have m6 := hD6; have h6 := hD6; have mL := hL; have hL := hn.2.1; have m12 := hn.1; have h12 := hn.1
  refine FC_told_s hD hD6 (fun j m u1 u2 e1 e2 => ?_) (fun nA => ?_)
  · subst e2
    refine (FM_told_0 (FM_told_1 (FM_told_2 (Nat.le_of_ble_eq_true rfl) (FM_isDistrict_n mD m6 (fun j2m u2m e2m => (FM_told_5 (fun z => absurd z (by decide)) (fun _ => (FM_told_8 (FM_told_9 (FM_told_10 (FM_told_12 (Nat.le_of_ble_eq_true rfl) (FM_in_n (show (0 : Int32) = nI 0 from rfl) (show (14 : Int32) = nI 14 from rfl) (by omega) (by omega) (fun j12m l12m u12m e12m => (FM_told_15 (fun _ => ?_) (fun z => absurd z (by decide)))) (fun n12m => (FM_told_15 (fun z => absurd z (by decide)) (fun _ => (FM_told_18 (FM_told_19 ?_))))))))))))) (fun n2m => (FM_told_5 (fun _ => (FM_told_18 (FM_told_19 ?_))) (fun z => absurd z (by decide))))))))
    · obtain rfl := nI_inj (e1.symm.trans e2m) (by omega) (by omega)
      match m, u2 with
      | 0, _ =>
        refine (FM_told_20 (FM_told_21 (FM_told_22 (fun z => absurd z (by decide)) (fun _ => (FM_told_25 (FM_told_26 (fun z => absurd z (by decide)) (fun _ => (FM_told_29 (FM_told_30 (FM_told_33 (FM_told_34n (by first | assumption | exact rfl) (by omega) (FM_told_35 (FM_told_44 ?_)))))))))))))
        exact ⟨((hl.1 j (by omega)).1).trans (congrArg (h.1 58) (by omega)), hi⟩
      | 1, _ =>
        refine (FM_told_20 (FM_told_21 (FM_told_22 (fun z => absurd z (by decide)) (fun _ => (FM_told_25 (FM_told_26 (fun _ => (FM_told_38 (FM_told_39 (FM_told_42 (FM_told_43n (by first | assumption | exact rfl) (by omega) (FM_told_44 ?_)))))) (fun z => absurd z (by decide))))))))
        exact ⟨((hl.1 j (by omega)).2.1).trans (congrArg (h.1 59) (by omega)), hi⟩
      | 2, _ =>
        refine (FM_told_20 (FM_told_21 (FM_told_22 (fun _ => (FM_told_45 (FM_told_46 (FM_told_48 (fun _ => (FM_told_58 (FM_told_59 (FM_told_60 (fun z => absurd z (by decide)) (fun _ => (FM_told_63 (FM_told_64 (FM_told_67 (FM_told_68 (FM_told_69 (FM_told_70 (FM_told_71 (FM_told_72 (FM_told_73 (FM_told_74n (nI_subE (nI_addE (nI_mulE (show (3 : Int32) = nI 3 from rfl) (by first | assumption | exact rfl)) (show (2 : Int32) = nI 2 from rfl)) (show (2 : Int32) = nI 2 from rfl) (by omega)) (by omega) (FM_told_75 (FM_told_134 ?_))))))))))))))))) (fun z => absurd z (by decide)))))) (fun z => absurd z (by decide)))))
        exact ⟨((hl.2.1 j 0 (by omega) (by omega)).1).trans (congrArg (h.1 60) (by omega)), hi⟩
      | 3, _ =>
        refine (FM_told_20 (FM_told_21 (FM_told_22 (fun _ => (FM_told_45 (FM_told_46 (FM_told_48 (fun _ => (FM_told_58 (FM_told_59 (FM_told_60 (fun z => absurd z (by decide)) (fun _ => (FM_told_63 (FM_told_64 (FM_told_67 (FM_told_68 (FM_told_69 (FM_told_70 (FM_told_71 (FM_told_72 (FM_told_73 (FM_told_74n (nI_subE (nI_addE (nI_mulE (show (3 : Int32) = nI 3 from rfl) (by first | assumption | exact rfl)) (show (3 : Int32) = nI 3 from rfl)) (show (2 : Int32) = nI 2 from rfl) (by omega)) (by omega) (FM_told_75 (FM_told_134 ?_))))))))))))))))) (fun z => absurd z (by decide)))))) (fun z => absurd z (by decide)))))
        exact ⟨((hl.2.1 j 1 (by omega) (by omega)).1).trans (congrArg (h.1 60) (by omega)), hi⟩
      | 4, _ =>
        refine (FM_told_20 (FM_told_21 (FM_told_22 (fun _ => (FM_told_45 (FM_told_46 (FM_told_48 (fun _ => (FM_told_58 (FM_told_59 (FM_told_60 (fun z => absurd z (by decide)) (fun _ => (FM_told_63 (FM_told_64 (FM_told_67 (FM_told_68 (FM_told_69 (FM_told_70 (FM_told_71 (FM_told_72 (FM_told_73 (FM_told_74n (nI_subE (nI_addE (nI_mulE (show (3 : Int32) = nI 3 from rfl) (by first | assumption | exact rfl)) (show (4 : Int32) = nI 4 from rfl)) (show (2 : Int32) = nI 2 from rfl) (by omega)) (by omega) (FM_told_75 (FM_told_134 ?_))))))))))))))))) (fun z => absurd z (by decide)))))) (fun z => absurd z (by decide)))))
        exact ⟨((hl.2.1 j 2 (by omega) (by omega)).1).trans (congrArg (h.1 60) (by omega)), hi⟩
      | 5, _ =>
        refine (FM_told_20 (FM_told_21 (FM_told_22 (fun _ => (FM_told_45 (FM_told_46 (FM_told_48 (fun _ => (FM_told_58 (FM_told_59 (FM_told_60 (fun _ => (FM_told_78 (FM_told_79 (FM_told_81 (fun z => absurd z (by decide)) (fun _ => (FM_told_84 (FM_told_85 (FM_told_88 (FM_told_89 (FM_told_90 (FM_told_91 (FM_told_92 (FM_told_93 (FM_told_94 (FM_told_95n (nI_subE (nI_addE (nI_mulE (show (3 : Int32) = nI 3 from rfl) (by first | assumption | exact rfl)) (show (5 : Int32) = nI 5 from rfl)) (show (5 : Int32) = nI 5 from rfl) (by omega)) (by omega) (FM_told_96 (FM_told_134 ?_))))))))))))))))) (fun z => absurd z (by decide)))))) (fun z => absurd z (by decide)))))) (fun z => absurd z (by decide)))))
        exact ⟨((hl.2.1 j 0 (by omega) (by omega)).2.1).trans (congrArg (h.1 61) (by omega)), hi⟩
      | 6, _ =>
        refine (FM_told_20 (FM_told_21 (FM_told_22 (fun _ => (FM_told_45 (FM_told_46 (FM_told_48 (fun _ => (FM_told_58 (FM_told_59 (FM_told_60 (fun _ => (FM_told_78 (FM_told_79 (FM_told_81 (fun z => absurd z (by decide)) (fun _ => (FM_told_84 (FM_told_85 (FM_told_88 (FM_told_89 (FM_told_90 (FM_told_91 (FM_told_92 (FM_told_93 (FM_told_94 (FM_told_95n (nI_subE (nI_addE (nI_mulE (show (3 : Int32) = nI 3 from rfl) (by first | assumption | exact rfl)) (show (6 : Int32) = nI 6 from rfl)) (show (5 : Int32) = nI 5 from rfl) (by omega)) (by omega) (FM_told_96 (FM_told_134 ?_))))))))))))))))) (fun z => absurd z (by decide)))))) (fun z => absurd z (by decide)))))) (fun z => absurd z (by decide)))))
        exact ⟨((hl.2.1 j 1 (by omega) (by omega)).2.1).trans (congrArg (h.1 61) (by omega)), hi⟩
      | 7, _ =>
        refine (FM_told_20 (FM_told_21 (FM_told_22 (fun _ => (FM_told_45 (FM_told_46 (FM_told_48 (fun _ => (FM_told_58 (FM_told_59 (FM_told_60 (fun _ => (FM_told_78 (FM_told_79 (FM_told_81 (fun z => absurd z (by decide)) (fun _ => (FM_told_84 (FM_told_85 (FM_told_88 (FM_told_89 (FM_told_90 (FM_told_91 (FM_told_92 (FM_told_93 (FM_told_94 (FM_told_95n (nI_subE (nI_addE (nI_mulE (show (3 : Int32) = nI 3 from rfl) (by first | assumption | exact rfl)) (show (7 : Int32) = nI 7 from rfl)) (show (5 : Int32) = nI 5 from rfl) (by omega)) (by omega) (FM_told_96 (FM_told_134 ?_))))))))))))))))) (fun z => absurd z (by decide)))))) (fun z => absurd z (by decide)))))) (fun z => absurd z (by decide)))))
        exact ⟨((hl.2.1 j 2 (by omega) (by omega)).2.1).trans (congrArg (h.1 61) (by omega)), hi⟩
      | 8, _ =>
        refine (FM_told_20 (FM_told_21 (FM_told_22 (fun _ => (FM_told_45 (FM_told_46 (FM_told_48 (fun z => absurd z (by decide)) (fun _ => (FM_told_51 (FM_told_52 (FM_told_55 (FM_told_56n (by first | assumption | exact rfl) (by omega) (FM_told_57 ?_)))))))))) (fun z => absurd z (by decide)))))
        exact ⟨((hl.1 j (by omega)).2.2).trans (congrArg (h.1 62) (by omega)), hi⟩
      | 9, _ =>
        refine (FM_told_20 (FM_told_21 (FM_told_22 (fun _ => (FM_told_45 (FM_told_46 (FM_told_48 (fun _ => (FM_told_58 (FM_told_59 (FM_told_60 (fun _ => (FM_told_78 (FM_told_79 (FM_told_81 (fun _ => (FM_told_99 (FM_told_100 (FM_told_102 (fun z => absurd z (by decide)) (fun _ => (FM_told_105 (FM_told_106 (FM_told_109 (FM_told_110 (FM_told_111 (FM_told_112 (FM_told_113 (FM_told_114 (FM_told_116 (FM_told_117n (nI_subE (nI_addE (nI_mulE (show (3 : Int32) = nI 3 from rfl) (by first | assumption | exact rfl)) (show (9 : Int32) = nI 9 from rfl)) (show (9 : Int32) = nI 9 from rfl) (by omega)) (by omega) (FM_told_118 (FM_told_134 ?_))))))))))))))))) (fun z => absurd z (by decide)))))) (fun z => absurd z (by decide)))))) (fun z => absurd z (by decide)))))) (fun z => absurd z (by decide)))))
        exact ⟨((hl.2.1 j 0 (by omega) (by omega)).2.2.1).trans (congrArg (h.1 63) (by omega)), hi⟩
      | 10, _ =>
        refine (FM_told_20 (FM_told_21 (FM_told_22 (fun _ => (FM_told_45 (FM_told_46 (FM_told_48 (fun _ => (FM_told_58 (FM_told_59 (FM_told_60 (fun _ => (FM_told_78 (FM_told_79 (FM_told_81 (fun _ => (FM_told_99 (FM_told_100 (FM_told_102 (fun z => absurd z (by decide)) (fun _ => (FM_told_105 (FM_told_106 (FM_told_109 (FM_told_110 (FM_told_111 (FM_told_112 (FM_told_113 (FM_told_114 (FM_told_116 (FM_told_117n (nI_subE (nI_addE (nI_mulE (show (3 : Int32) = nI 3 from rfl) (by first | assumption | exact rfl)) (show (10 : Int32) = nI 10 from rfl)) (show (9 : Int32) = nI 9 from rfl) (by omega)) (by omega) (FM_told_118 (FM_told_134 ?_))))))))))))))))) (fun z => absurd z (by decide)))))) (fun z => absurd z (by decide)))))) (fun z => absurd z (by decide)))))) (fun z => absurd z (by decide)))))
        exact ⟨((hl.2.1 j 1 (by omega) (by omega)).2.2.1).trans (congrArg (h.1 63) (by omega)), hi⟩
      | 11, _ =>
        refine (FM_told_20 (FM_told_21 (FM_told_22 (fun _ => (FM_told_45 (FM_told_46 (FM_told_48 (fun _ => (FM_told_58 (FM_told_59 (FM_told_60 (fun _ => (FM_told_78 (FM_told_79 (FM_told_81 (fun _ => (FM_told_99 (FM_told_100 (FM_told_102 (fun z => absurd z (by decide)) (fun _ => (FM_told_105 (FM_told_106 (FM_told_109 (FM_told_110 (FM_told_111 (FM_told_112 (FM_told_113 (FM_told_114 (FM_told_116 (FM_told_117n (nI_subE (nI_addE (nI_mulE (show (3 : Int32) = nI 3 from rfl) (by first | assumption | exact rfl)) (show (11 : Int32) = nI 11 from rfl)) (show (9 : Int32) = nI 9 from rfl) (by omega)) (by omega) (FM_told_118 (FM_told_134 ?_))))))))))))))))) (fun z => absurd z (by decide)))))) (fun z => absurd z (by decide)))))) (fun z => absurd z (by decide)))))) (fun z => absurd z (by decide)))))
        exact ⟨((hl.2.1 j 2 (by omega) (by omega)).2.2.1).trans (congrArg (h.1 63) (by omega)), hi⟩
      | 12, _ =>
        refine (FM_told_20 (FM_told_21 (FM_told_22 (fun _ => (FM_told_45 (FM_told_46 (FM_told_48 (fun _ => (FM_told_58 (FM_told_59 (FM_told_60 (fun _ => (FM_told_78 (FM_told_79 (FM_told_81 (fun _ => (FM_told_99 (FM_told_100 (FM_told_102 (fun _ => (FM_told_121 (FM_told_122 (FM_told_125 (FM_told_126 (FM_told_127 (FM_told_128 (FM_told_129 (FM_told_130 (FM_told_132 (FM_told_133n (nI_subE (nI_addE (nI_mulE (show (3 : Int32) = nI 3 from rfl) (by first | assumption | exact rfl)) (show (12 : Int32) = nI 12 from rfl)) (show (12 : Int32) = nI 12 from rfl) (by omega)) (by omega) (FM_told_134 ?_)))))))))))) (fun z => absurd z (by decide)))))) (fun z => absurd z (by decide)))))) (fun z => absurd z (by decide)))))) (fun z => absurd z (by decide)))))) (fun z => absurd z (by decide)))))
        exact ⟨((hl.2.1 j 0 (by omega) (by omega)).2.2.2).trans (congrArg (h.1 64) (by omega)), hi⟩
      | 13, _ =>
        refine (FM_told_20 (FM_told_21 (FM_told_22 (fun _ => (FM_told_45 (FM_told_46 (FM_told_48 (fun _ => (FM_told_58 (FM_told_59 (FM_told_60 (fun _ => (FM_told_78 (FM_told_79 (FM_told_81 (fun _ => (FM_told_99 (FM_told_100 (FM_told_102 (fun _ => (FM_told_121 (FM_told_122 (FM_told_125 (FM_told_126 (FM_told_127 (FM_told_128 (FM_told_129 (FM_told_130 (FM_told_132 (FM_told_133n (nI_subE (nI_addE (nI_mulE (show (3 : Int32) = nI 3 from rfl) (by first | assumption | exact rfl)) (show (13 : Int32) = nI 13 from rfl)) (show (12 : Int32) = nI 12 from rfl) (by omega)) (by omega) (FM_told_134 ?_)))))))))))) (fun z => absurd z (by decide)))))) (fun z => absurd z (by decide)))))) (fun z => absurd z (by decide)))))) (fun z => absurd z (by decide)))))) (fun z => absurd z (by decide)))))
        exact ⟨((hl.2.1 j 1 (by omega) (by omega)).2.2.2).trans (congrArg (h.1 64) (by omega)), hi⟩
      | 14, _ =>
        refine (FM_told_20 (FM_told_21 (FM_told_22 (fun _ => (FM_told_45 (FM_told_46 (FM_told_48 (fun _ => (FM_told_58 (FM_told_59 (FM_told_60 (fun _ => (FM_told_78 (FM_told_79 (FM_told_81 (fun _ => (FM_told_99 (FM_told_100 (FM_told_102 (fun _ => (FM_told_121 (FM_told_122 (FM_told_125 (FM_told_126 (FM_told_127 (FM_told_128 (FM_told_129 (FM_told_130 (FM_told_132 (FM_told_133n (nI_subE (nI_addE (nI_mulE (show (3 : Int32) = nI 3 from rfl) (by first | assumption | exact rfl)) (show (14 : Int32) = nI 14 from rfl)) (show (12 : Int32) = nI 12 from rfl) (by omega)) (by omega) (FM_told_134 ?_)))))))))))) (fun z => absurd z (by decide)))))) (fun z => absurd z (by decide)))))) (fun z => absurd z (by decide)))))) (fun z => absurd z (by decide)))))) (fun z => absurd z (by decide)))))
        exact ⟨((hl.2.1 j 2 (by omega) (by omega)).2.2.2).trans (congrArg (h.1 64) (by omega)), hi⟩
      | _ + 15, z => exact absurd z (by omega)
    · exact absurd ⟨m, Nat.zero_le _, u2, rfl⟩ n12m
    · exact absurd ⟨j, u1, e1⟩ n2m
  · refine (FM_told_0 (FM_told_1 (FM_told_2 (Nat.le_of_ble_eq_true rfl) (FM_isDistrict_n mD m6 (fun j2m u2m e2m => (FM_told_5 (fun z => absurd z (by decide)) (fun _ => (FM_told_8 (FM_told_9 (FM_told_10 (FM_told_12 (Nat.le_of_ble_eq_true rfl) (FM_in_n (show (0 : Int32) = nI 0 from rfl) (show (14 : Int32) = nI 14 from rfl) (by omega) (by omega) (fun j12m l12m u12m e12m => (FM_told_15 (fun _ => ?_) (fun z => absurd z (by decide)))) (fun n12m => (FM_told_15 (fun z => absurd z (by decide)) (fun _ => (FM_told_18 (FM_told_19 ?_))))))))))))) (fun n2m => (FM_told_5 (fun _ => (FM_told_18 (FM_told_19 ?_))) (fun z => absurd z (by decide))))))))
    · exact absurd ⟨⟨j2m, u2m, e2m⟩, ⟨j12m, l12m, u12m, e12m⟩⟩ nA
    · exact ⟨rfl, hi⟩
    · exact ⟨rfl, hi⟩
theorem nIm1 {x : Int32} {w : Nat} (hw : w < 2 ^ 31) : inI x 0 (nI w - 1) ↔ isLt x w := isLt_of rfl hw
theorem FC_within_w {X : SX} {d : Nat} {h : HH} {Q : Int32 → HH → Prop} {x z e : Int32} {w : Nat} (e0 : z = 0) (e1 : e = nI w - 1) (hw : w < 2 ^ 31) (t : ∀ j, j < w → x = nI j → Q 1 h) (f : ¬ isLt x w → Q 0 h) : E X d FC_within 0 [.int x, .int z, .int e] [] h Q := by
  subst e0; subst e1
  exact FC_within_c (fun z => by obtain ⟨j, a, b⟩ := (nIm1 hw).mp z; exact t j a b) (fun z => f (fun y => z ((nIm1 hw).mpr y)))
theorem FM_in_w {X : SX} {d : Nat} {h : HH} {Q : Int32 → HH → Prop} {x z e : Int32} {w : Nat} (e0 : z = 0) (e1 : e = nI w - 1) (hw : w < 2 ^ 31) (t : ∀ j, j < w → x = nI j → Q 1 h) (f : ¬ isLt x w → Q 0 h) : E X d FM_in 0 [.int x, .int z, .int e] [] h Q := by
  subst e0; subst e1
  exact FM_in_c (fun z => by obtain ⟨j, a, b⟩ := (nIm1 hw).mp z; exact t j a b) (fun z => f (fun y => z ((nIm1 hw).mpr y)))
set_option maxHeartbeats 1000000 in
theorem pp_was : PP_was := by
  intro X h a n hi
  obtain ⟨D, w, S, L, W, K, ⟨hm1, bk, hb, hb1, hb2⟩, hc, hl, hs, hn, hw, hk, ha, hx, hh, hp⟩ := id hi
  obtain ⟨hD6, hw60, hD, hD', hwk, hwk', hwg, hwg', hpd, hln, her, hS, hL, hW, hK⟩ := id hc
  have mD := hD'; have m6 := hD6; have h6 := hD6; have mL := hL; have hL := hn.2.1; have m12 := hn.1; have h12 := hn.1
  refine (FC_was_0 (FC_was_1 (FC_was_2 (Nat.le_of_ble_eq_true rfl) (FC_isDistrict_n hD h6 (fun j2 u2 e2 => (FC_was_5 (fun z => absurd z (by decide)) (fun _ => (FC_was_8 (FC_was_9 (FC_was_10 (FC_was_11 (FC_was_14 (FC_was_17 (FC_was_18 (FC_was_19 (Nat.le_of_ble_eq_true rfl) ?_))))))))))) (fun n2 => (FC_was_5 (fun _ => (FC_was_25 (FC_was_26 ?_))) (fun z => absurd z (by decide))))))))
  · refine FC_within_w rfl (congrArg (· - 1) hwk) (by omega) (fun jw uw ew => ?_) (fun nw => ?_)
    · refine (FC_was_22 (fun _ => (FC_was_27 (FC_was_28 (FC_was_31 (FC_was_34 (FC_was_35 (FC_was_37 (FC_was_38 (FC_was_39 (FC_was_40n (nI_addE (nI_mulE (by first | assumption | exact rfl) (show (60 : Int32) = nI 60 from rfl)) (by first | assumption | exact rfl)) (by omega) (FC_was_41 ?_))))))))))) (fun z => absurd z (by decide)))
      refine (FM_was_0 (FM_was_1 (FM_was_2 (Nat.le_of_ble_eq_true rfl) (FM_isDistrict_n mD m6 (fun j2m u2m e2m => (FM_was_5 (fun z => absurd z (by decide)) (fun _ => (FM_was_8 (FM_was_9 (FM_was_10 (FM_was_11 (FM_was_14 (FM_was_15 (FM_was_16 (Nat.le_of_ble_eq_true rfl) ?_)))))))))) (fun n2m => (FM_was_5 (fun _ => (FM_was_36 (FM_was_37 ?_))) (fun z => absurd z (by decide))))))))
      · refine FM_in_w rfl (congrArg (· - 1) hwk') (by omega) (fun jx ux ex => ?_) (fun nx => absurd ⟨jw, uw, ew⟩ nx)
        refine (FM_was_19 (fun z => absurd z (by decide)) (fun _ => (FM_was_22 (FM_was_23 (FM_was_26 (FM_was_28 (FM_was_29 (FM_was_30 (FM_was_31 (FM_was_32n (nI_addE (nI_mulE (show (60 : Int32) = nI 60 from rfl) (by first | assumption | exact rfl)) (by first | assumption | exact rfl)) (by omega) (FM_was_33 (FM_was_37 ?_))))))))))))
        obtain rfl := nI_inj (ew.symm.trans ex) (by omega) (by omega)
        obtain rfl := nI_inj (e2.symm.trans e2m) (by omega) (by omega)
        exact ⟨(ha _ (by omega)).trans (congrArg (h.1 65) (by omega)), hi⟩
      · exact absurd ⟨j2, u2, e2⟩ n2m
    · refine (FC_was_22 (fun z => absurd z (by decide)) (fun _ => (FC_was_25 (FC_was_26 ?_))))
      refine (FM_was_0 (FM_was_1 (FM_was_2 (Nat.le_of_ble_eq_true rfl) (FM_isDistrict_n mD m6 (fun j2m u2m e2m => (FM_was_5 (fun z => absurd z (by decide)) (fun _ => (FM_was_8 (FM_was_9 (FM_was_10 (FM_was_11 (FM_was_14 (FM_was_15 (FM_was_16 (Nat.le_of_ble_eq_true rfl) ?_)))))))))) (fun n2m => (FM_was_5 (fun _ => (FM_was_36 (FM_was_37 ?_))) (fun z => absurd z (by decide))))))))
      · refine FM_in_w rfl (congrArg (· - 1) hwk') (by omega) (fun jx ux ex => absurd ⟨jx, ux, ex⟩ nw) (fun nx => ?_)
        refine (FM_was_19 (fun _ => (FM_was_36 (FM_was_37 ?_))) (fun z => absurd z (by decide)))
        exact ⟨rfl, hi⟩
      · exact ⟨rfl, hi⟩
  · refine (FM_was_0 (FM_was_1 (FM_was_2 (Nat.le_of_ble_eq_true rfl) (FM_isDistrict_n mD m6 (fun j2m u2m e2m => (FM_was_5 (fun z => absurd z (by decide)) (fun _ => (FM_was_8 (FM_was_9 (FM_was_10 (FM_was_11 (FM_was_14 (FM_was_15 (FM_was_16 (Nat.le_of_ble_eq_true rfl) ?_)))))))))) (fun n2m => (FM_was_5 (fun _ => (FM_was_36 (FM_was_37 ?_))) (fun z => absurd z (by decide))))))))
    · exact FM_in_c (fun _ => absurd ⟨j2m, u2m, e2m⟩ n2) (fun _ => absurd ⟨j2m, u2m, e2m⟩ n2)
    · exact ⟨rfl, hi⟩
end PP3
