section LI
variable {X : SX} {d L : Nat} {h : HH} {Q : Int32 → HH → Prop}
theorem Co_add_c {a b c n : Int32} (hL : h.1 9 1 = nI L) (h12 : L < 12) (k : Q (nI L) (pI (pI (pI (pI (pI (pI (pI (pI h 9 1 (nI (L + 1))) 10 (L * 9 + 0) a) 10 (L * 9 + 1) (b - b / 4 * 4)) 10 (L * 9 + 2) (spanI b)) 10 (L * 9 + 3) (b / 32)) 10 (L * 9 + 4) c) 10 (L * 9 + 7) n) 10 (L * 9 + 8) (-1))) : E X (d + 1) Co_add 0 [.ref 9, .int a, .int b, .int c, .int n, U0] [] h Q := by
  refine (Co_add_0 (Co_add_1 (Co_add_2 (Co_add_5 (Co_add_6 (Co_add_7 (Co_add_8 (Co_add_11 (Co_add_13 (Co_add_14 (Co_add_16 (Co_add_17 (Co_add_18 (Nat.le_of_ble_eq_true rfl) (Co_put_c (by repeat (first | assumption | exact rfl | refine fld_pI1 (by decide) ?_ | refine fld_pI2 (by decide) ?_ | refine fld_pI3 ?_ | refine nI_addE ?_ (show (1 : Int32) = nI 1 from rfl))) (show (0 : Int32) = nI 0 from rfl) (by omega) (by omega) (Co_add_21 (Co_add_22 (Co_add_24 (Co_add_25 (Co_add_26 (Co_add_27 (by decide) (Co_add_28 (Nat.le_of_ble_eq_true rfl) (Co_put_c (by repeat (first | assumption | exact rfl | refine fld_pI1 (by decide) ?_ | refine fld_pI2 (by decide) ?_ | refine fld_pI3 ?_ | refine nI_addE ?_ (show (1 : Int32) = nI 1 from rfl))) (show (1 : Int32) = nI 1 from rfl) (by omega) (by omega) (Co_add_31 (Co_add_32 (Co_add_34 (Co_add_35 (Co_add_36 (Nat.le_of_ble_eq_true rfl) (Co_spanIn_c (Co_add_39 (Nat.le_of_ble_eq_true rfl) (Co_put_c (by repeat (first | assumption | exact rfl | refine fld_pI1 (by decide) ?_ | refine fld_pI2 (by decide) ?_ | refine fld_pI3 ?_ | refine nI_addE ?_ (show (1 : Int32) = nI 1 from rfl))) (show (2 : Int32) = nI 2 from rfl) (by omega) (by omega) (Co_add_42 (Co_add_43 (Co_add_45 (Co_add_46 (Co_add_47 (Co_add_49 (by decide) (Co_add_50 (Nat.le_of_ble_eq_true rfl) (Co_put_c (by repeat (first | assumption | exact rfl | refine fld_pI1 (by decide) ?_ | refine fld_pI2 (by decide) ?_ | refine fld_pI3 ?_ | refine nI_addE ?_ (show (1 : Int32) = nI 1 from rfl))) (show (3 : Int32) = nI 3 from rfl) (by omega) (by omega) (Co_add_53 (Co_add_54 (Co_add_56 (Co_add_57 (Co_add_58 (Nat.le_of_ble_eq_true rfl) (Co_put_c (by repeat (first | assumption | exact rfl | refine fld_pI1 (by decide) ?_ | refine fld_pI2 (by decide) ?_ | refine fld_pI3 ?_ | refine nI_addE ?_ (show (1 : Int32) = nI 1 from rfl))) (show (4 : Int32) = nI 4 from rfl) (by omega) (by omega) (Co_add_61 (Co_add_62 (Co_add_64 (Co_add_66 (Co_add_68 (Nat.le_of_ble_eq_true rfl) (Co_put_c (by repeat (first | assumption | exact rfl | refine fld_pI1 (by decide) ?_ | refine fld_pI2 (by decide) ?_ | refine fld_pI3 ?_ | refine nI_addE ?_ (show (1 : Int32) = nI 1 from rfl))) (show (7 : Int32) = nI 7 from rfl) (by omega) (by omega) (Co_add_71 (Co_add_72 (Co_add_74 (Co_add_76 (Co_add_77 (Nat.le_of_ble_eq_true rfl) (Co_put_c (by repeat (first | assumption | exact rfl | refine fld_pI1 (by decide) ?_ | refine fld_pI2 (by decide) ?_ | refine fld_pI3 ?_ | refine nI_addE ?_ (show (1 : Int32) = nI 1 from rfl))) (show (8 : Int32) = nI 8 from rfl) (by omega) (by omega) (Co_add_80 (Co_add_82 ?_))))))))))))))))))))))))))))))))))))))))))))))))))))))))))
  have e : h.1 9 1 + 1 = nI (L + 1) := by rw [hL]; exact nI_1 L
  rw [e, hL]
  exact k
end LI
section LJ
variable {X : SX} {d L : Nat} {h : HH} {Q : Int32 → HH → Prop}
theorem inI_m1L {n x : Int32} (e : x = nI L - 1) (hL : L < 2 ^ 31) : inI n (-1) x ↔ n = -1 ∨ isLt n L := by
  subst e
  have e0 : (-1 : Int32).toInt = -1 := by decide
  constructor
  · intro z
    by_cases y : n = -1
    · exact Or.inl y
    · refine Or.inr ((isLt_of rfl hL).mp ⟨?_, z.2⟩)
      have h1 := (fa_le _ _).mp z.1
      have e1 : (0 : Int32).toInt = 0 := by decide
      refine (fa_le _ _).mpr ?_
      have : ¬ n.toInt = -1 := fun y' => y ((fa_eq _ _).mpr (by rw [y', e0]))
      omega
  · rintro (rfl | z)
    · refine ⟨Int32.le_refl _, ?_⟩
      match L, hL with
      | 0, _ => decide
      | l + 1, hL =>
        rw [show nI (l + 1) - 1 = nI l by rw [← nI_1]; simp]
        refine (fa_le _ _).mpr ?_
        rw [nI_toInt (by omega)]
        omega
    · have := (isLt_of (c := nI L) rfl hL).mpr z
      refine ⟨?_, this.2⟩
      have h1 := (fa_le _ _).mp this.1
      have e1 : (0 : Int32).toInt = 0 := by decide
      refine (fa_le _ _).mpr ?_
      omega
def lineOk (a b c n : Int32) (L : Nat) : Prop := isN a 0 5 ∧ (inI b 0 95 ∧ inI (spanI b) 1 4) ∧ inI c (-400) 400 ∧ (n = -1 ∨ isLt n L)
theorem FC_line_t {a b c u n a6 : Int32} {a7 : Value} (hl : L < 12) (hu : u = 0 ∨ u = 1) (k : Q (nI L) (pI (pI (pI h 10 (L * 9 + 5) u) 10 (L * 9 + 6) n) 0 8 0)) : E X (d + 4) FC_line 101 [.ref 0, .int a, .int b, .int c, .int u, .int n, .int a6, a7] [.int (nI L)] h Q := by
  rcases hu with rfl | rfl
  · refine (FC_line_101 (FC_line_103 (FC_line_104 (FC_line_107 (FC_line_110 (FC_line_112 (FC_line_113 (FC_line_115 (fun c115 => (FC_line_122 (FC_line_123 (Nat.le_of_ble_eq_true rfl) (Co_put_c (rfl:nI L=nI L) (show (5 : Int32) = nI 5 from rfl) (by omega) (by omega) (FC_line_126 (FC_line_127 (FC_line_130 (FC_line_133 (FC_line_135 (FC_line_137 (FC_line_139 (Nat.le_of_ble_eq_true rfl) (Co_put_c (rfl:nI L=nI L) (show (6 : Int32) = nI 6 from rfl) (by omega) (by omega) (FC_line_142 (FC_line_143 (FC_line_145 (Nat.le_of_ble_eq_true rfl) (FC_done_c (FC_line_148 ?_))))))))))))))))) (fun c115 => (FC_line_118 (FC_line_119 (FC_line_123 (Nat.le_of_ble_eq_true rfl) (Co_put_c (rfl:nI L=nI L) (show (5 : Int32) = nI 5 from rfl) (by omega) (by omega) (FC_line_126 (FC_line_127 (FC_line_130 (FC_line_133 (FC_line_135 (FC_line_137 (FC_line_139 (Nat.le_of_ble_eq_true rfl) (Co_put_c (rfl:nI L=nI L) (show (6 : Int32) = nI 6 from rfl) (by omega) (by omega) (FC_line_142 (FC_line_143 (FC_line_145 (Nat.le_of_ble_eq_true rfl) (FC_done_c (FC_line_148 ?_))))))))))))))))))))))))))
    · exact k
    · exact absurd rfl (by assumption)
  · refine (FC_line_101 (FC_line_103 (FC_line_104 (FC_line_107 (FC_line_110 (FC_line_112 (FC_line_113 (FC_line_115 (fun c115 => (FC_line_122 (FC_line_123 (Nat.le_of_ble_eq_true rfl) (Co_put_c (rfl:nI L=nI L) (show (5 : Int32) = nI 5 from rfl) (by omega) (by omega) (FC_line_126 (FC_line_127 (FC_line_130 (FC_line_133 (FC_line_135 (FC_line_137 (FC_line_139 (Nat.le_of_ble_eq_true rfl) (Co_put_c (rfl:nI L=nI L) (show (6 : Int32) = nI 6 from rfl) (by omega) (by omega) (FC_line_142 (FC_line_143 (FC_line_145 (Nat.le_of_ble_eq_true rfl) (FC_done_c (FC_line_148 ?_))))))))))))))))) (fun c115 => (FC_line_118 (FC_line_119 (FC_line_123 (Nat.le_of_ble_eq_true rfl) (Co_put_c (rfl:nI L=nI L) (show (5 : Int32) = nI 5 from rfl) (by omega) (by omega) (FC_line_126 (FC_line_127 (FC_line_130 (FC_line_133 (FC_line_135 (FC_line_137 (FC_line_139 (Nat.le_of_ble_eq_true rfl) (Co_put_c (rfl:nI L=nI L) (show (6 : Int32) = nI 6 from rfl) (by omega) (by omega) (FC_line_142 (FC_line_143 (FC_line_145 (Nat.le_of_ble_eq_true rfl) (FC_done_c (FC_line_148 ?_))))))))))))))))))))))))))
    · exact absurd (by assumption) (by decide)
    · exact k
theorem FC_line_s {a b c u n : Int32} (hL : h.1 9 1 = nI L) (h12 : L ≤ 12) {w : Int32} (hw : h.1 1 6 = w) (hu : u = 0 ∨ u = 1) (t : lineOk a b c n L → L < 12 → Q (nI L) (pI (pI (pI (pI (pI (pI (pI (pI (pI (pI (pI h 9 1 (nI (L + 1))) 10 (L * 9 + 0) a) 10 (L * 9 + 1) (b - b / 4 * 4)) 10 (L * 9 + 2) (spanI b)) 10 (L * 9 + 3) (b / 32)) 10 (L * 9 + 4) c) 10 (L * 9 + 7) w) 10 (L * 9 + 8) (-1)) 10 (L * 9 + 5) u) 10 (L * 9 + 6) n) 0 8 0))
    (g : ¬ L < 12 → lineOk a b c n L → Q (-1) (pI h 0 8 2)) (f : ¬ lineOk a b c n L → Q (-1) (pI h 0 8 1)) : E X (d + 4) FC_line 0 [.ref 0, .int a, .int b, .int c, .int u, .int n, U0, U0] [] h Q := by
  subst hw
  have lt : h.1 9 1 < 12 ↔ L < 12 := ltN hL (show (12 : Int32) = nI 12 from rfl) (by omega) (by omega)
  refine (FC_line_0 (FC_line_2 (FC_line_3 (fun c3 => (FC_line_15 (FC_line_16 (FC_line_20 (FC_line_22 (FC_line_23 (Nat.le_of_ble_eq_true rfl) (FC_isKind_n (fun j23 u23 e23 => (FC_line_26 (fun z => absurd z (by decide)) (fun _ => (FC_line_29 (FC_line_30 (Nat.le_of_ble_eq_true rfl) (FC_isTest_c (fun c30 => (FC_line_33 (fun z => absurd z (by decide)) (fun _ => (FC_line_36 (FC_line_37 (FC_line_40 (FC_line_43 (Nat.le_of_ble_eq_true rfl) (FC_within_c (fun c43 => (FC_line_46 (fun z => absurd z (by decide)) (fun _ => (FC_line_49 (FC_line_51 (fun _ => (FC_line_60 (FC_line_61 (FC_line_64 (FC_line_67 (FC_line_70 (FC_line_72 (fun c72 => (FC_line_81 (FC_line_82 (FC_line_85 (FC_line_88 (FC_line_89 (FC_line_90 (FC_line_91 (FC_line_92 (FC_line_95 (FC_line_98 (Nat.le_of_ble_eq_true rfl) ?_))))))))))) (fun c72 => (FC_line_75 (FC_line_76 (FC_line_77 (Nat.le_of_ble_eq_true rfl) (FC_refuse_c (FC_line_80 ?_))))))))))))) (fun z => absurd z (by decide))))))) (fun c43 => (FC_line_46 (fun _ => (FC_line_54 (FC_line_55 (FC_line_56 (Nat.le_of_ble_eq_true rfl) (FC_refuse_c (FC_line_59 ?_)))))) (fun z => absurd z (by decide)))))))))))) (fun c30 => (FC_line_33 (fun _ => (FC_line_54 (FC_line_55 (FC_line_56 (Nat.le_of_ble_eq_true rfl) (FC_refuse_c (FC_line_59 ?_)))))) (fun z => absurd z (by decide)))))))))) (fun n23 => (FC_line_26 (fun _ => (FC_line_54 (FC_line_55 (FC_line_56 (Nat.le_of_ble_eq_true rfl) (FC_refuse_c (FC_line_59 ?_)))))) (fun z => absurd z (by decide))))))))))) (fun c3 => (FC_line_6 (FC_line_7 (FC_line_9 (Nat.le_of_ble_eq_true rfl) (FC_isLine_n hL h12 (fun j9 u9 e9 => (FC_line_12 (fun z => absurd z (by decide)) (fun _ => (FC_line_15 (FC_line_16 (FC_line_20 (FC_line_22 (FC_line_23 (Nat.le_of_ble_eq_true rfl) (FC_isKind_n (fun j23 u23 e23 => (FC_line_26 (fun z => absurd z (by decide)) (fun _ => (FC_line_29 (FC_line_30 (Nat.le_of_ble_eq_true rfl) (FC_isTest_c (fun c30 => (FC_line_33 (fun z => absurd z (by decide)) (fun _ => (FC_line_36 (FC_line_37 (FC_line_40 (FC_line_43 (Nat.le_of_ble_eq_true rfl) (FC_within_c (fun c43 => (FC_line_46 (fun z => absurd z (by decide)) (fun _ => (FC_line_49 (FC_line_51 (fun _ => (FC_line_60 (FC_line_61 (FC_line_64 (FC_line_67 (FC_line_70 (FC_line_72 (fun c72 => (FC_line_81 (FC_line_82 (FC_line_85 (FC_line_88 (FC_line_89 (FC_line_90 (FC_line_91 (FC_line_92 (FC_line_95 (FC_line_98 (Nat.le_of_ble_eq_true rfl) ?_))))))))))) (fun c72 => (FC_line_75 (FC_line_76 (FC_line_77 (Nat.le_of_ble_eq_true rfl) (FC_refuse_c (FC_line_80 ?_))))))))))))) (fun z => absurd z (by decide))))))) (fun c43 => (FC_line_46 (fun _ => (FC_line_54 (FC_line_55 (FC_line_56 (Nat.le_of_ble_eq_true rfl) (FC_refuse_c (FC_line_59 ?_)))))) (fun z => absurd z (by decide)))))))))))) (fun c30 => (FC_line_33 (fun _ => (FC_line_54 (FC_line_55 (FC_line_56 (Nat.le_of_ble_eq_true rfl) (FC_refuse_c (FC_line_59 ?_)))))) (fun z => absurd z (by decide)))))))))) (fun n23 => (FC_line_26 (fun _ => (FC_line_54 (FC_line_55 (FC_line_56 (Nat.le_of_ble_eq_true rfl) (FC_refuse_c (FC_line_59 ?_)))))) (fun z => absurd z (by decide))))))))))))) (fun n9 => (FC_line_12 (fun _ => (FC_line_19 (FC_line_20 (FC_line_22 (FC_line_23 (Nat.le_of_ble_eq_true rfl) (FC_isKind_n (fun j23 u23 e23 => (FC_line_26 (fun z => absurd z (by decide)) (fun _ => (FC_line_29 (FC_line_30 (Nat.le_of_ble_eq_true rfl) (FC_isTest_c (fun c30 => (FC_line_33 (fun z => absurd z (by decide)) (fun _ => (FC_line_36 (FC_line_37 (FC_line_40 (FC_line_43 (Nat.le_of_ble_eq_true rfl) (FC_within_c (fun c43 => (FC_line_46 (fun z => absurd z (by decide)) (fun _ => (FC_line_49 (FC_line_51 (fun z => absurd z (by decide)) (fun _ => (FC_line_54 (FC_line_55 (FC_line_56 (Nat.le_of_ble_eq_true rfl) (FC_refuse_c (FC_line_59 ?_))))))))))) (fun c43 => (FC_line_46 (fun _ => (FC_line_54 (FC_line_55 (FC_line_56 (Nat.le_of_ble_eq_true rfl) (FC_refuse_c (FC_line_59 ?_)))))) (fun z => absurd z (by decide)))))))))))) (fun c30 => (FC_line_33 (fun _ => (FC_line_54 (FC_line_55 (FC_line_56 (Nat.le_of_ble_eq_true rfl) (FC_refuse_c (FC_line_59 ?_)))))) (fun z => absurd z (by decide)))))))))) (fun n23 => (FC_line_26 (fun _ => (FC_line_54 (FC_line_55 (FC_line_56 (Nat.le_of_ble_eq_true rfl) (FC_refuse_c (FC_line_59 ?_)))))) (fun z => absurd z (by decide)))))))))) (fun z => absurd z (by decide))))))))))))
  · exact Co_add_c hL (lt.mp c72) (FC_line_t (lt.mp c72) hu (t ⟨⟨j23, Nat.zero_le _, u23, e23⟩, c30, c43, Or.inl c3⟩ (lt.mp c72)))
  · exact g (fun z => c72 (lt.mpr z)) ⟨⟨j23, Nat.zero_le _, u23, e23⟩, c30, c43, Or.inl c3⟩
  · exact f (fun z => c43 z.2.2.1)
  · exact f (fun z => c30 z.2.1)
  · exact f (fun z => n23 z.1)
  · exact Co_add_c hL (lt.mp c72) (FC_line_t (lt.mp c72) hu (t ⟨⟨j23, Nat.zero_le _, u23, e23⟩, c30, c43, Or.inr ⟨j9, u9, e9⟩⟩ (lt.mp c72)))
  · exact g (fun z => c72 (lt.mpr z)) ⟨⟨j23, Nat.zero_le _, u23, e23⟩, c30, c43, Or.inr ⟨j9, u9, e9⟩⟩
  · exact f (fun z => c43 z.2.2.1)
  · exact f (fun z => c30 z.2.1)
  · exact f (fun z => n23 z.1)
  all_goals exact f (fun z => z.2.2.2.elim c3 n9)
theorem FM_line_s {a b c u n : Int32} (mL : h.1 57 21 = nI L) (m12 : L ≤ 12) {w : Int32} (hw : h.1 57 10 = w) (hu : u = 0 ∨ u = 1) (t : lineOk a b c n L → L < 12 → Q (nI L) (pI (pI (pI (pI (pI (pI (pI (pI (pI (pI (pI h 71 L a) 72 L (b - b / 4 * 4)) 73 L (spanI b)) 74 L (b / 32)) 75 L c) 76 L u) 77 L n) 78 L w) 79 L (-1)) 57 21 (nI (L + 1))) 57 0 0))
    (g : ¬ L < 12 → lineOk a b c n L → Q (-1) (pI h 57 0 2)) (f : ¬ lineOk a b c n L → Q (-1) (pI h 57 0 1)) : E X (d + 4) FM_line 0 [.ref 57, .int a, .int b, .int c, .int u, .int n, U0] [] h Q := by
  have q : ∀ {x : Int32}, x = h.1 57 21 - 1 → (inI n (-1) x ↔ n = -1 ∨ isLt n L) := fun e => inI_m1L (by rw [e, mL]) (by omega)
  have k5 : inI a 0 5 ↔ isN a 0 5 := isN_of (l := 0) (m := 5) rfl rfl (by omega) (by omega)
  refine (FM_line_0 (FM_line_1 (FM_line_2 (FM_line_3 (Nat.le_of_ble_eq_true rfl) (FM_in_c (fun c3 => (FM_line_6 (fun z => absurd z (by decide)) (fun _ => (FM_line_9 (FM_line_10 (FM_line_11 (FM_line_13 (Nat.le_of_ble_eq_true rfl) (FM_in_c (fun c13 => (FM_line_16 (fun z => absurd z (by decide)) (fun _ => (FM_line_19 (FM_line_20 (FM_line_21 (by decide) (FM_line_22 (FM_line_24 (by decide) (FM_line_25 (FM_line_26 (FM_line_27 (Nat.le_of_ble_eq_true rfl) (FM_in_c (fun c27 => (FM_line_30 (fun z => absurd z (by decide)) (fun _ => (FM_line_33 (FM_line_34 (FM_line_37 (FM_line_40 (Nat.le_of_ble_eq_true rfl) (FM_in_c (fun c40 => (FM_line_43 (fun z => absurd z (by decide)) (fun _ => (FM_line_46 (FM_line_48 (FM_line_49 (FM_line_50 (FM_line_53 (FM_line_54 (FM_line_55 (Nat.le_of_ble_eq_true rfl) (FM_in_c (fun c55 => (FM_line_58 (fun z => absurd z (by decide)) (fun _ => (FM_line_61 (FM_line_62 (FM_line_66 (FM_line_68 (FM_line_70 (fun _ => (FM_line_79 (FM_line_80 (FM_line_83 (FM_line_85 (fun c85 => ?_) (fun c85 => (FM_line_88 (FM_line_89 (FM_line_90 (Nat.le_of_ble_eq_true rfl) (FM_refused_c (FM_line_93 ?_))))))))))) (fun z => absurd z (by decide)))))))))) (fun c55 => (FM_line_58 (fun _ => (FM_line_65 (FM_line_66 (FM_line_68 (FM_line_70 (fun z => absurd z (by decide)) (fun _ => (FM_line_73 (FM_line_74 (FM_line_75 (Nat.le_of_ble_eq_true rfl) (FM_refused_c (FM_line_78 ?_))))))))))) (fun z => absurd z (by decide))))))))))))))) (fun c40 => (FM_line_43 (fun _ => (FM_line_65 (FM_line_66 (FM_line_68 (FM_line_70 (fun z => absurd z (by decide)) (fun _ => (FM_line_73 (FM_line_74 (FM_line_75 (Nat.le_of_ble_eq_true rfl) (FM_refused_c (FM_line_78 ?_))))))))))) (fun z => absurd z (by decide)))))))))))) (fun c27 => (FM_line_30 (fun _ => (FM_line_65 (FM_line_66 (FM_line_68 (FM_line_70 (fun z => absurd z (by decide)) (fun _ => (FM_line_73 (FM_line_74 (FM_line_75 (Nat.le_of_ble_eq_true rfl) (FM_refused_c (FM_line_78 ?_))))))))))) (fun z => absurd z (by decide)))))))))))))))) (fun c13 => (FM_line_16 (fun _ => (FM_line_65 (FM_line_66 (FM_line_68 (FM_line_70 (fun z => absurd z (by decide)) (fun _ => (FM_line_73 (FM_line_74 (FM_line_75 (Nat.le_of_ble_eq_true rfl) (FM_refused_c (FM_line_78 ?_))))))))))) (fun z => absurd z (by decide)))))))))))) (fun c3 => (FM_line_6 (fun _ => (FM_line_65 (FM_line_66 (FM_line_68 (FM_line_70 (fun z => absurd z (by decide)) (fun _ => (FM_line_73 (FM_line_74 (FM_line_75 (Nat.le_of_ble_eq_true rfl) (FM_refused_c (FM_line_78 ?_))))))))))) (fun z => absurd z (by decide)))))))))
  · have hl : L < 12 := by
      have : ¬ L = 12 := fun z => c85 ((eqN mL (show (12 : Int32) = nI 12 from rfl) (by omega) (by omega)).mpr z)
      omega
    have k := t ⟨k5.mp c3, ⟨c13, c27⟩, c40, (q rfl).mp c55⟩ hl
    have ev : vp_nar .boolean u = u := by rcases hu with rfl | rfl <;> decide
    refine (FM_line_94 (FM_line_95 (FM_line_98 (FM_line_99 (FM_line_102 (FM_line_103n (by repeat (first | assumption | exact rfl | refine fld_pI1 (by decide) ?_ | refine fld_pI2 (by decide) ?_ | refine fld_pI3 ?_ | refine nI_addE ?_ (show (1 : Int32) = nI 1 from rfl))) (by omega) (FM_line_104 (FM_line_105 (FM_line_108 (FM_line_109 (FM_line_112 (FM_line_113 (FM_line_114 (by decide) (FM_line_115n (by repeat (first | assumption | exact rfl | refine fld_pI1 (by decide) ?_ | refine fld_pI2 (by decide) ?_ | refine fld_pI3 ?_ | refine nI_addE ?_ (show (1 : Int32) = nI 1 from rfl))) (by omega) (FM_line_116 (FM_line_117 (FM_line_120 (FM_line_121 (FM_line_124 (FM_line_125 (FM_line_126 (by decide) (FM_line_127 (FM_line_129 (by decide) (FM_line_130n (by repeat (first | assumption | exact rfl | refine fld_pI1 (by decide) ?_ | refine fld_pI2 (by decide) ?_ | refine fld_pI3 ?_ | refine nI_addE ?_ (show (1 : Int32) = nI 1 from rfl))) (by omega) (FM_line_131 (FM_line_132 (FM_line_135 (FM_line_136 (FM_line_139 (FM_line_140 (FM_line_142 (by decide) (FM_line_143n (by repeat (first | assumption | exact rfl | refine fld_pI1 (by decide) ?_ | refine fld_pI2 (by decide) ?_ | refine fld_pI3 ?_ | refine nI_addE ?_ (show (1 : Int32) = nI 1 from rfl))) (by omega) (FM_line_144 (FM_line_145 (FM_line_148 (FM_line_149 (FM_line_152 (FM_line_153n (by repeat (first | assumption | exact rfl | refine fld_pI1 (by decide) ?_ | refine fld_pI2 (by decide) ?_ | refine fld_pI3 ?_ | refine nI_addE ?_ (show (1 : Int32) = nI 1 from rfl))) (by omega) (FM_line_154 (FM_line_155 (FM_line_158 (FM_line_159 (FM_line_162 (FM_line_164n (by repeat (first | assumption | exact rfl | refine fld_pI1 (by decide) ?_ | refine fld_pI2 (by decide) ?_ | refine fld_pI3 ?_ | refine nI_addE ?_ (show (1 : Int32) = nI 1 from rfl))) (by omega) (FM_line_165 (FM_line_166 (FM_line_169 (FM_line_170 (FM_line_173 (FM_line_175n (by repeat (first | assumption | exact rfl | refine fld_pI1 (by decide) ?_ | refine fld_pI2 (by decide) ?_ | refine fld_pI3 ?_ | refine nI_addE ?_ (show (1 : Int32) = nI 1 from rfl))) (by omega) (FM_line_176 (FM_line_177 (FM_line_180 (FM_line_181 (FM_line_184 (FM_line_185 (FM_line_188n (by repeat (first | assumption | exact rfl | refine fld_pI1 (by decide) ?_ | refine fld_pI2 (by decide) ?_ | refine fld_pI3 ?_ | refine nI_addE ?_ (show (1 : Int32) = nI 1 from rfl))) (by omega) (FM_line_189 (FM_line_190 (FM_line_193 (FM_line_194 (FM_line_197 (FM_line_198n (by repeat (first | assumption | exact rfl | refine fld_pI1 (by decide) ?_ | refine fld_pI2 (by decide) ?_ | refine fld_pI3 ?_ | refine nI_addE ?_ (show (1 : Int32) = nI 1 from rfl))) (by omega) (FM_line_199 (FM_line_200 (FM_line_201 (FM_line_204 (FM_line_205 (FM_line_206 (FM_line_209 (FM_line_210 (FM_line_211 (FM_line_214 (FM_line_215 (FM_line_216 (Nat.le_of_ble_eq_true rfl) (FM_done_c (FM_line_219 ?_)))))))))))))))))))))))))))))))))))))))))))))))))))))))))))))))))))))))))))))
    rw [ev]
    simp only [pI1, mL, hw, nI_1]
    simp [nI_pred]
    rw [nI_1]
    exact k
  · exact g (fun z => absurd ((eqN mL (show (12 : Int32) = nI 12 from rfl) (by omega) (by omega)).mp (by assumption)) (by omega)) ⟨k5.mp c3, ⟨c13, c27⟩, c40, (q rfl).mp c55⟩
  · exact f (fun z => c55 ((q rfl).mpr z.2.2.2))
  · exact f (fun z => c40 z.2.2.1)
  · exact f (fun z => c27 z.2.1.2)
  · exact f (fun z => c13 z.2.1.1)
  · exact f (fun z => c3 (k5.mpr z.1))
theorem rem4 : ∀ j : Nat, j < 96 → nI j - nI j / 4 * 4 = nI (j % 4) ∧ nI j / 32 = nI (j / 32) := by decide +kernel
theorem iLines_add {h h' : HH} {L w : Nat} {a b c u n : Int32} (hl : L < 12) (hw : w ≤ 60) (hu : u = 0 ∨ u = 1) (A : lineOk a b c n L) (q : h'.1 9 1 = nI (L + 1))
    (e : ∀ x, h'.1 10 x = if x = L * 9 + 6 then n else if x = L * 9 + 5 then u else if x = L * 9 + 8 then -1 else if x = L * 9 + 7 then nI w else if x = L * 9 + 4 then c else if x = L * 9 + 3 then b / 32 else if x = L * 9 + 2 then spanI b else if x = L * 9 + 1 then b - b / 4 * 4 else if x = L * 9 then a else h.1 10 x)
    (t : ∀ x, h'.1 71 x = (if x = L then a else h.1 71 x) ∧ h'.1 72 x = (if x = L then b - b / 4 * 4 else h.1 72 x) ∧ h'.1 73 x = (if x = L then spanI b else h.1 73 x) ∧ h'.1 74 x = (if x = L then b / 32 else h.1 74 x) ∧ h'.1 75 x = (if x = L then c else h.1 75 x) ∧ h'.1 76 x = (if x = L then u else h.1 76 x) ∧ h'.1 77 x = (if x = L then n else h.1 77 x) ∧ h'.1 78 x = (if x = L then nI w else h.1 78 x) ∧ h'.1 79 x = (if x = L then -1 else h.1 79 x)) (H : iLines h 9 L 79) : iLines h' 9 (L + 1) 79 := by
  refine ⟨by omega, q, fun x hx => ?_⟩
  obtain ⟨t1, t2, t3, t4, t5, t6, t7, t8, t9⟩ := t x
  show (isN (h'.1 71 x) 0 5 ∧ _) ∧ h'.1 10 _ = _ ∧ h'.1 10 _ = _ ∧ h'.1 10 _ = _ ∧ h'.1 10 _ = _ ∧ h'.1 10 _ = _ ∧ h'.1 10 _ = _ ∧ h'.1 10 _ = _ ∧ h'.1 10 _ = _ ∧ h'.1 10 _ = _
  rw [t1, t2, t3, t4, t5, t6, t7, t8, t9]
  by_cases z : x = L
  · subst z
    obtain ⟨A1, ⟨A2, A3⟩, A4, A5⟩ := A
    obtain ⟨j, -, j2, rfl⟩ := (isN_of (l := 0) (m := 95) rfl rfl (by omega) (by omega)).mp A2
    have r := rem4 j (by omega)
    simp only [if_pos]
    refine ⟨⟨A1, ?_, (isN_of (l := 1) (m := 4) rfl rfl (by omega) (by omega)).mp A3, ?_, ?_, A5, ⟨w, by omega, hw, rfl⟩, Or.inl trivial⟩, ?_⟩
    · rw [r.1]; exact ⟨_, by omega, by omega, rfl⟩
    · rw [r.2]; exact ⟨_, by omega, by omega, rfl⟩
    · rcases hu with rfl | rfl
      · exact ⟨0, by omega, by omega, rfl⟩
      · exact ⟨1, by omega, by omega, rfl⟩
    · refine ⟨?_, ?_, ?_, ?_, ?_, ?_, ?_, ?_, ?_⟩
      all_goals rw [e]
      · simp
      · simp
      · simp
      · simp
      · simp
      · simp
      · simp
      · simp
      · simp
  · simp only [if_neg z]
    have := H.2.2 x (by omega)
    refine ⟨this.1, ?_⟩
    obtain ⟨b0, b1, b2, b3, b4, b5, b6, b7, b8⟩ := this.2
    refine ⟨?_, ?_, ?_, ?_, ?_, ?_, ?_, ?_, ?_⟩
    all_goals rw [e, if_neg (by omega), if_neg (by omega), if_neg (by omega), if_neg (by omega), if_neg (by omega), if_neg (by omega), if_neg (by omega), if_neg (by omega), if_neg (by omega)]
    all_goals assumption
set_option maxHeartbeats 2000000 in
theorem pp_line : PP_line := by
  intro X h a b c u n hu hi
  obtain ⟨D, w, S, L, W, K, ⟨hm1, bk, hb, hb1, hb2⟩, hc, hl, hs, hn, hw, hk, ha, hx, hh, hp⟩ := id hi
  obtain ⟨hD6, hw60, hD, hD', hwk, hwk', hwg, hwg', hpd, hln, her, hS, hL, hW, hK⟩ := id hc
  refine FC_line_s (w := nI w) hn.2.1 hn.1 hwk hu (fun A b1 => ?_) (fun nL A => ?_) (fun nA => ?_)
  · refine FM_line_s (L := L) (w := nI w) (by simpa [pI1] using hL) hn.1 (by simpa [pI1] using hwk') hu (fun _ _ => ?_) (fun nL _ => absurd b1 nL) (fun nA => absurd A nA)
    refine ⟨rfl, ?_⟩
    exact ⟨D, w, S, L + 1, W, K, ⟨by simp [pI1], bk, hb, by simp [pI1, hb1], by simp [pI1, hb2]⟩, ⟨hD6, hw60, by simp [pI1, hD], by simp [pI1, hD'], by simp [pI1, hwk], by simp [pI1, hwk'], by simp [pI1, hwg], by simp [pI1]; exact hwg', by simp [pI1, hpd], by simp [pI1, hln], by simp [pI1, her], by simp [pI1, hS], by simp [pI1], by simp [pI1, hW], by simp [pI1, hK]⟩, iLand_cg (by simp [pI_r]) hl, iSigns_cg (by simp [pI_r]) (fun k _ => by simp [pI_r]) hs,
      iLines_add b1 hw60 hu A (by simp [pI1]) (fun x => by simp [pI1]) (fun x => by simp [pI1]) hn, iWays_cg (by simp [pI_r, pI1]) (fun k _ => by simp [pI_r]) hw, iWorks_cg (by simp [pI_r, pI1]) (fun k _ => by simp [pI_r]) hk, iWas_cg (by simp [pI_r]) ha, iAct_cg (by simp [pI_r, pI1]) hx, iSheet_cg (by simp [pI_r]) hh, iKept_cg (Nat.le_refl _) (by omega) (Nat.le_refl _) (Nat.le_refl _) (by simp [pI_r, pI1]) (fun k _ => by simp [pI_r]) (fun x hx => by simp [pI1]; omega) (fun k _ => by simp [pI_r]) (fun k _ => by simp [pI_r]) hp⟩
  · exact FM_line_s (L := L) (w := nI w) (by simpa [pI1] using hL) hn.1 (by simpa [pI1] using hwk') hu (fun _ b1 => absurd b1 nL) (fun _ _ => ⟨rfl, Inv_refuse hi⟩) (fun nA => absurd A nA)
  · exact FM_line_s (L := L) (w := nI w) (by simpa [pI1] using hL) hn.1 (by simpa [pI1] using hwk') hu (fun A _ => absurd A nA) (fun _ A => absurd A nA) (fun _ => ⟨rfl, Inv_refuse hi⟩)
end LJ
