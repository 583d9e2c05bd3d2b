section FB
variable {X : SX} {d D W K : Nat} {h : HH} {Q : Int32 → HH → Prop} {x y z v nd : Int32}
theorem bst_lt {H V : Int32 → Int32} {near need : Int32} {s t : Nat} (hs : s < 256) (ht : bst H V near need s = nI t) (hts : t < s) : ∃ p q : Nat, p ≤ 12 ∧ q ≤ 12 ∧ bcI (nI t) = nI p ∧ mcI (nI t) 12 = nI p ∧ bcI (nI s) = nI q ∧ mcI (nI s) 12 = nI q := by
  obtain ⟨a1, a2, a3⟩ := bc_mc t (by omega)
  obtain ⟨b1, b2, b3⟩ := bc_mc s hs
  exact ⟨_, _, a3, b3, a1.trans a2, a2, b1.trans b2, b2⟩
theorem Wo_bestSet_l (hK : h.1 16 3 = nI K) (h8 : K ≤ 8) {near : Int32} (k : Q (bst (fun x => sO (h.1 18) x K) (fun x => sO (h.1 19) x K) near nd (2 ^ K)) h) : ∀ (m s : Nat) (b bw : Int32) (a7 a8 : Value), s + m = 2 ^ K → b = bst (fun x => sO (h.1 18) x K) (fun x => sO (h.1 19) x K) near nd s → (b ≠ -1 → bw = sO (h.1 19) b K) → E X (d + 1) Wo_bestSet 15 [.ref 16, .int x, .int nd, .int near, .int b, .int bw, .int (nI s), a7, a8] [] h Q := by
  have e2 : (1 : Int32) <<< (h.1 16 3 &&& 31) = nI (2 ^ K) := by rw [hK]; exact pw8 K (by omega)
  have p8 := pw_le h8
  intro m
  induction m with
  | zero =>
    intro s b bw a7 a8 hs hb hbw
    obtain rfl : s = 2 ^ K := by omega
    refine (Wo_bestSet_15 (Wo_bestSet_17 (Wo_bestSet_18 (Wo_bestSet_19 (Wo_bestSet_22 (Wo_bestSet_23 (fun c23 => (Wo_bestSet_118 (Wo_bestSet_120 ?_))) (fun c23 => ?_)))))))
    · rw [hb]; exact k
    · rw [e2] at c23; exact absurd (Int32.le_refl _) c23
  | succ m ih =>
    intro s b bw a7 a8 hs hb hbw
    have skip : ¬ (nI s &&& (near ^^^ (-1)) = 0 ∧ nd ≤ sO (h.1 18) (nI s) K) → ∀ a7 a8 : Value, E X (d + 1) Wo_bestSet 15 [.ref 16, .int x, .int nd, .int near, .int b, .int bw, .int (nI s + 1), a7, a8] [] h Q := fun g a7 a8 => by
      rw [nI_1]
      exact ih (s + 1) b bw a7 a8 (by omega) (by rw [bst, if_neg (fun z => g z.1)]; exact hb) hbw
    have worse : ¬ (b = -1 ∨ mcI (nI s) 12 < mcI b 12 ∨ mcI (nI s) 12 = mcI b 12 ∧ sO (h.1 19) b K < sO (h.1 19) (nI s) K) → ∀ a7 a8 : Value, E X (d + 1) Wo_bestSet 15 [.ref 16, .int x, .int nd, .int near, .int b, .int bw, .int (nI s + 1), a7, a8] [] h Q := fun g a7 a8 => by
      rw [nI_1]
      exact ih (s + 1) b bw a7 a8 (by omega) (by rw [bst, if_neg (fun z => g (by rw [hb]; exact z.2))]; exact hb) hbw
    have better : (nI s &&& (near ^^^ (-1)) = 0 ∧ nd ≤ sO (h.1 18) (nI s) K) → (b = -1 ∨ mcI (nI s) 12 < mcI b 12 ∨ mcI (nI s) 12 = mcI b 12 ∧ sO (h.1 19) b K < sO (h.1 19) (nI s) K) → ∀ a7 a8 : Value, E X (d + 1) Wo_bestSet 15 [.ref 16, .int x, .int nd, .int near, .int (nI s), .int (sO (h.1 19) (nI s) K), .int (nI s + 1), a7, a8] [] h Q := fun g1 g2 a7 a8 => by
      rw [nI_1]
      exact ih (s + 1) (nI s) _ a7 a8 (by omega) (by rw [bst, if_pos ⟨g1, by rw [← hb]; exact g2⟩]) (fun _ => rfl)
    refine (Wo_bestSet_15 (Wo_bestSet_17 (Wo_bestSet_18 (Wo_bestSet_19 (Wo_bestSet_22 (Wo_bestSet_23 (fun c23 => (Wo_bestSet_118 (Wo_bestSet_120 ?_))) (fun c23 => (Wo_bestSet_26 (Wo_bestSet_28 (Wo_bestSet_29 (Wo_bestSet_30 (Wo_bestSet_31 (Wo_bestSet_32 (fun c32 => (Wo_bestSet_112 (Wo_bestSet_115 ?_))) (fun c32 => (Wo_bestSet_35 (Wo_bestSet_36 (Wo_bestSet_38 (Wo_bestSet_39 (Wo_bestSet_42 (Nat.le_of_ble_eq_true rfl) ?_)))))))))))))))))))
    · rw [e2] at c23; exact absurd ((leN rfl rfl (by omega) (by omega)).mp c23) (by omega)
    · exact skip (fun z => c32 z.1) _ _
    · refine Wo_sumOver_c (a := 18) rfl hK h8 ?_
      refine (Wo_bestSet_45 (Wo_bestSet_46 (fun c46 => (Wo_bestSet_52 (Wo_bestSet_53 (Wo_bestSet_55 (Wo_bestSet_56 (Wo_bestSet_59 (Nat.le_of_ble_eq_true rfl) ?_)))))) (fun c46 => (Wo_bestSet_49 (Wo_bestSet_112 (Wo_bestSet_115 ?_))))))
      · refine Wo_sumOver_c (a := 19) rfl hK h8 ?_
        have g1 : nI s &&& (near ^^^ (-1)) = 0 ∧ nd ≤ sO (h.1 18) (nI s) K := ⟨c32, c46⟩
        rcases bst_r (H := fun x => sO (h.1 18) x K) (V := fun x => sO (h.1 19) x K) (near := near) (need := nd) s with e | ⟨t, t1, t2⟩
        · have b1 : b = -1 := hb.trans e
          refine (Wo_bestSet_62 (Wo_bestSet_64 (Wo_bestSet_66 (Wo_bestSet_67 (fun c67 => ?_) (fun c67 => (Wo_bestSet_70 (Wo_bestSet_71 (Wo_bestSet_85 (Wo_bestSet_87 (Wo_bestSet_89 (fun _ => (Wo_bestSet_104 (Wo_bestSet_106 (Wo_bestSet_108 (Wo_bestSet_110 (Wo_bestSet_112 (Wo_bestSet_115 ?_))))))) (fun z => absurd z (by decide))))))))))))
          · exact absurd b1 c67
          · exact better g1 (Or.inl b1) _ _
        · have b1 : b = nI t := hb.trans t2
          obtain ⟨p, q, hp, hq, B1, M1, B2, M2⟩ := bst_lt (s := s) (by omega) t2 t1
          have sp := spn p (by omega) q (by omega)
          have nb : ¬ b = -1 := by rw [b1]; exact nI_m1 (by omega)
          have hbw := hbw nb
          rw [b1, M1, M2] at worse better
          refine (Wo_bestSet_62 (Wo_bestSet_64 (Wo_bestSet_66 (Wo_bestSet_67 (fun c67 => (Wo_bestSet_74 (Wo_bestSet_76 (Nat.le_of_ble_eq_true rfl) (JI_bitCount_c (Wo_bestSet_79 (Wo_bestSet_81 (Nat.le_of_ble_eq_true rfl) (JI_bitCount_c (Wo_bestSet_84 (Wo_bestSet_85 (Wo_bestSet_87 (Wo_bestSet_89 (fun c89 => (Wo_bestSet_104 (Wo_bestSet_106 (Wo_bestSet_108 (Wo_bestSet_110 (Wo_bestSet_112 (Wo_bestSet_115 ?_))))))) (fun c89 => (Wo_bestSet_92 (Wo_bestSet_94 (fun c94 => (Wo_bestSet_112 (Wo_bestSet_115 ?_))) (fun c94 => (Wo_bestSet_97 (Wo_bestSet_99 (Wo_bestSet_101 (fun c101 => (Wo_bestSet_112 (Wo_bestSet_115 ?_))) (fun c101 => (Wo_bestSet_104 (Wo_bestSet_106 (Wo_bestSet_108 (Wo_bestSet_110 (Wo_bestSet_112 (Wo_bestSet_115 ?_))))))))))))))))))))))))) (fun c67 => (Wo_bestSet_70 (Wo_bestSet_71 (Wo_bestSet_85 (Wo_bestSet_87 (Wo_bestSet_89 (fun _ => (Wo_bestSet_104 (Wo_bestSet_106 (Wo_bestSet_108 (Wo_bestSet_110 (Wo_bestSet_112 (Wo_bestSet_115 ?_))))))) (fun z => absurd z (by decide))))))))))))
          · rw [b1, B1, B2] at c89
            have := (fa_lt _ _).mp c89
            rw [sp, show (0 : Int32).toInt = 0 by decide] at this
            exact better g1 (Or.inr (Or.inl ((ltN rfl rfl (by omega) (by omega)).mpr (by omega)))) _ _
          · rw [b1, B1, B2] at c89 c94
            have h1 : ¬ (0 : Int32).toInt < (nI p - nI q).toInt := fun y => c89 ((fa_lt _ _).mpr y)
            have h2 : ¬ (nI p - nI q).toInt = (0 : Int32).toInt := fun y => c94 ((fa_eq _ _).mpr y)
            rw [sp, show (0 : Int32).toInt = 0 by decide] at h1 h2
            rw [b1]
            refine worse (fun z => ?_) _ _
            rcases z with z | z | z
            · exact nb (b1.trans z)
            · have := (ltN rfl rfl (by omega) (by omega)).mp z; omega
            · have := nI_inj z.1 (by omega) (by omega); omega
          · rw [b1]
            refine worse (fun z => ?_) _ _
            rw [b1, B1, B2] at c89 c94
            have h1 : ¬ (0 : Int32).toInt < (nI p - nI q).toInt := fun y => c89 ((fa_lt _ _).mpr y)
            have h2 : (nI p - nI q).toInt = (0 : Int32).toInt := (fa_eq _ _).mp c94
            rw [sp, show (0 : Int32).toInt = 0 by decide] at h1 h2
            rcases z with z | z | z
            · exact nb (b1.trans z)
            · have := (ltN rfl rfl (by omega) (by omega)).mp z; omega
            · rw [hbw, b1] at c101; exact Int32.not_lt.mpr c101 z.2
          · rw [b1, B1, B2] at c94
            have h2 : (nI p - nI q).toInt = (0 : Int32).toInt := (fa_eq _ _).mp c94
            rw [sp, show (0 : Int32).toInt = 0 by decide] at h2
            rw [hbw, b1] at c101
            exact better g1 (Or.inr (Or.inr ⟨by rw [show q = p by omega], Int32.not_le.mp c101⟩)) _ _
          · exact absurd c67 nb
      · exact skip (fun z => c46 z.2) _ _
theorem Wo_bestSet_c (hK : h.1 16 3 = nI K) (h8 : K ≤ 8) (k : Q (bst (fun x => sO (h.1 18) x K) (fun x => sO (h.1 19) x K) (wIn (h.1 17) x K) nd (2 ^ K)) h) : E X (d + 1) Wo_bestSet 0 [.ref 16, .int x, .int nd, U0, U0, U0, U0, U0, U0] [] h Q := by
  refine (Wo_bestSet_0 (Wo_bestSet_1 (Wo_bestSet_2 (Nat.le_of_ble_eq_true rfl) ?_)))
  refine (?_ : E X d Wo_worksIn 0 [.ref 16, .int x, U0, U0] [] h _)
  refine (Wo_worksIn_0 (Wo_worksIn_1 (Wo_worksIn_2 (Wo_worksIn_3 ?_))))
  refine Wo_worksIn_l hK h8 ?_ K 0 (by omega)
  refine (Wo_bestSet_5 (Wo_bestSet_6 (Wo_bestSet_7 (Wo_bestSet_9 (Wo_bestSet_10 (Wo_bestSet_12 (Wo_bestSet_13 ?_)))))))
  exact Wo_bestSet_l hK h8 k (2 ^ K) 0 (-1) 0 _ _ (by omega) rfl (fun z => absurd rfl z)
theorem FM_fewest_w (hK : h.1 57 36 = nI K) (h8 : K ≤ 8) {a1 a2 a3 r : Int32} (k : ∀ a7 a8 : Value, E X (d + 1) FM_fewest 88 [.ref 57, .int a1, .int a2, .int a3, .int r, .int (wIn (h.1 84) r K), .int (nI K), a7, a8] [] h Q) : ∀ (m j : Nat) (a7 a8 : Value), j + m = K → E X (d + 1) FM_fewest 44 [.ref 57, .int a1, .int a2, .int a3, .int r, .int (wIn (h.1 84) r j), .int (nI j), a7, a8] [] h Q := by
  intro m
  induction m with
  | zero =>
    intro j a7 a8 hj
    obtain rfl : j = K := by omega
    refine (FM_fewest_44 (FM_fewest_46 (FM_fewest_47 (FM_fewest_50 (fun c50 => ?_) (fun c50 => ?_)))))
    · exact k _ _
    · rw [hK] at c50; exact absurd (Int32.le_refl _) c50
  | succ m ih =>
    intro j a7 a8 hj
    have nx : ∀ v, v = wIn (h.1 84) r (j + 1) → E X (d + 1) FM_fewest 44 [.ref 57, .int a1, .int a2, .int a3, .int r, .int v, .int (nI j + 1), a7, a8] [] h Q := fun v hv => by
      rw [hv, nI_1]; exact ih (j + 1) _ _ (by omega)
    refine (FM_fewest_44 (FM_fewest_46 (FM_fewest_47 (FM_fewest_50 (fun c50 => ?_) (fun c50 => (FM_fewest_53 (FM_fewest_55 (FM_fewest_57 (FM_fewest_58 (FM_fewest_61 (FM_fewest_63n (by first | assumption | exact rfl) (by omega) (FM_fewest_64 (FM_fewest_65 (FM_fewest_66 (FM_fewest_67 (FM_fewest_68 (fun c68 => (FM_fewest_78 (FM_fewest_79 (FM_fewest_80 (FM_fewest_82 (FM_fewest_85 ?_)))))) (fun c68 => (FM_fewest_71 (FM_fewest_72 (FM_fewest_74 (FM_fewest_75 (FM_fewest_79 (FM_fewest_80 (FM_fewest_82 (FM_fewest_85 ?_)))))))))))))))))))))))))
    · rw [hK] at c50; exact absurd ((leN rfl rfl (by omega) (by omega)).mp c50) (by omega)
    · refine nx _ ?_
      rw [wIn, if_neg c68, or0]
    · refine nx _ ?_
      rw [wIn, if_pos c68]
theorem FM_fewest_l (hK : h.1 57 36 = nI K) (h8 : K ≤ 8) {a1 a3 r near : Int32} (k : Q (bst (fun x => sO (h.1 85) x K) (fun x => sO (h.1 86) x K) near nd (2 ^ K)) h) : ∀ (m s : Nat) (b : Int32) (a8 : Value), s + m = 2 ^ K → b = bst (fun x => sO (h.1 85) x K) (fun x => sO (h.1 86) x K) near nd s → E X (d + 1) FM_fewest 94 [.ref 57, .int a1, .int nd, .int a3, .int r, .int near, .int b, .int (nI s), a8] [] h Q := by
  have e2 : (1 : Int32) <<< (h.1 57 36 &&& 31) = nI (2 ^ K) := by rw [hK]; exact pw8 K (by omega)
  have p8 := pw_le h8
  have s1 : ∀ {d : Nat} {s : Int32} {Q : Int32 → HH → Prop}, Q (sO (h.1 85) s K) h → E X d FM_sumOf 0 [.ref 57, .int s, .int 1, U0, U0] [] h Q := fun q => FM_sumOf_c (Or.inr rfl) hK h8 (by rw [if_pos rfl]; exact q)
  have s0 : ∀ {d : Nat} {s : Int32} {Q : Int32 → HH → Prop}, Q (sO (h.1 86) s K) h → E X d FM_sumOf 0 [.ref 57, .int s, .int 0, U0, U0] [] h Q := fun q => FM_sumOf_c (Or.inl rfl) hK h8 (by rw [if_neg (by decide)]; exact q)
  intro m
  induction m with
  | zero =>
    intro s b a8 hs hb
    obtain rfl : s = 2 ^ K := by omega
    refine (FM_fewest_94 (FM_fewest_96 (FM_fewest_97 (FM_fewest_98 (FM_fewest_101 (FM_fewest_102 (fun c102 => (FM_fewest_202 (FM_fewest_204 ?_))) (fun c102 => ?_)))))))
    · rw [hb]; exact k
    · rw [e2] at c102; exact absurd (Int32.le_refl _) c102
  | succ m ih =>
    intro s b a8 hs hb
    have skip : ¬ (nI s &&& (near ^^^ (-1)) = 0 ∧ nd ≤ sO (h.1 85) (nI s) K) → ∀ a8 : Value, E X (d + 1) FM_fewest 94 [.ref 57, .int a1, .int nd, .int a3, .int r, .int near, .int b, .int (nI s + 1), a8] [] h Q := fun g a8 => by
      rw [nI_1]
      exact ih (s + 1) b a8 (by omega) (by rw [bst, if_neg (fun z => g z.1)]; exact hb)
    have worse : ¬ (b = -1 ∨ mcI (nI s) 12 < mcI b 12 ∨ mcI (nI s) 12 = mcI b 12 ∧ sO (h.1 86) b K < sO (h.1 86) (nI s) K) → ∀ a8 : Value, E X (d + 1) FM_fewest 94 [.ref 57, .int a1, .int nd, .int a3, .int r, .int near, .int b, .int (nI s + 1), a8] [] h Q := fun g a8 => by
      rw [nI_1]
      exact ih (s + 1) b a8 (by omega) (by rw [bst, if_neg (fun z => g (by rw [hb]; exact z.2))]; exact hb)
    have better : (nI s &&& (near ^^^ (-1)) = 0 ∧ nd ≤ sO (h.1 85) (nI s) K) → (b = -1 ∨ mcI (nI s) 12 < mcI b 12 ∨ mcI (nI s) 12 = mcI b 12 ∧ sO (h.1 86) b K < sO (h.1 86) (nI s) K) → ∀ a8 : Value, E X (d + 1) FM_fewest 94 [.ref 57, .int a1, .int nd, .int a3, .int r, .int near, .int (nI s), .int (nI s + 1), a8] [] h Q := fun g1 g2 a8 => by
      rw [nI_1]
      exact ih (s + 1) (nI s) a8 (by omega) (by rw [bst, if_pos ⟨g1, by rw [← hb]; exact g2⟩])
    refine (FM_fewest_94 (FM_fewest_96 (FM_fewest_97 (FM_fewest_98 (FM_fewest_101 (FM_fewest_102 (fun c102 => (FM_fewest_202 (FM_fewest_204 ?_))) (fun c102 => (FM_fewest_105 (FM_fewest_107 (FM_fewest_109 (FM_fewest_110 (FM_fewest_111 (FM_fewest_112 (fun c112 => (FM_fewest_196 (FM_fewest_199 ?_))) (fun c112 => (FM_fewest_115 (FM_fewest_116 (FM_fewest_118 (FM_fewest_119 (Nat.le_of_ble_eq_true rfl) ?_))))))))))))))))))
    · rw [e2] at c102; exact absurd ((leN rfl rfl (by omega) (by omega)).mp c102) (by omega)
    · exact skip (fun z => c112 z.1) _
    · refine s1 ?_
      refine (FM_fewest_122 (FM_fewest_123 (fun c123 => (FM_fewest_196 (FM_fewest_199 ?_))) (fun c123 => (FM_fewest_126 (FM_fewest_128 (FM_fewest_129 (fun c129 => (FM_fewest_175 (FM_fewest_176 (FM_fewest_180 (FM_fewest_182 (FM_fewest_184 (fun z => absurd z (by decide)) (fun _ => (FM_fewest_187 (FM_fewest_189 (FM_fewest_194 (FM_fewest_196 (FM_fewest_199 ?_)))))))))))) (fun c129 => (FM_fewest_132 (FM_fewest_134 (Nat.le_of_ble_eq_true rfl) (FM_many_c (FM_fewest_137 (FM_fewest_139 (Nat.le_of_ble_eq_true rfl) (FM_many_c (FM_fewest_142 (fun c142 => (FM_fewest_175 (FM_fewest_176 (FM_fewest_180 (FM_fewest_182 (FM_fewest_184 (fun z => absurd z (by decide)) (fun _ => (FM_fewest_187 (FM_fewest_189 (FM_fewest_194 (FM_fewest_196 (FM_fewest_199 ?_)))))))))))) (fun c142 => (FM_fewest_145 (FM_fewest_147 (Nat.le_of_ble_eq_true rfl) (FM_many_c (FM_fewest_150 (FM_fewest_152 (Nat.le_of_ble_eq_true rfl) (FM_many_c (FM_fewest_155 (fun c155 => (FM_fewest_179 (FM_fewest_180 (FM_fewest_182 (FM_fewest_184 (fun _ => (FM_fewest_192 (FM_fewest_194 (FM_fewest_196 (FM_fewest_199 ?_))))) (fun z => absurd z (by decide))))))) (fun c155 => (FM_fewest_158 (FM_fewest_159 (FM_fewest_161 (FM_fewest_162 (Nat.le_of_ble_eq_true rfl) ?_)))))))))))))))))))))))))))
      · exact skip (fun z => Int32.not_le.mpr c123 z.2) _
      · exact better ⟨c112, Int32.not_lt.mp c123⟩ (Or.inl c129) _
      · exact better ⟨c112, Int32.not_lt.mp c123⟩ (Or.inr (Or.inl c142)) _
      · exact worse (fun z => z.elim c129 (fun z => z.elim c142 (fun z => c155 z.1))) _
      · refine s0 ?_
        refine (FM_fewest_165 (FM_fewest_166 (FM_fewest_168 (FM_fewest_169 (Nat.le_of_ble_eq_true rfl) ?_))))
        refine s0 ?_
        refine (FM_fewest_172 (fun c172 => (FM_fewest_179 (FM_fewest_180 (FM_fewest_182 (FM_fewest_184 (fun _ => (FM_fewest_192 (FM_fewest_194 (FM_fewest_196 (FM_fewest_199 ?_))))) (fun z => absurd z (by decide))))))) (fun c172 => (FM_fewest_175 (FM_fewest_176 (FM_fewest_180 (FM_fewest_182 (FM_fewest_184 (fun z => absurd z (by decide)) (fun _ => (FM_fewest_187 (FM_fewest_189 (FM_fewest_194 (FM_fewest_196 (FM_fewest_199 ?_)))))))))))))
        · exact worse (fun z => z.elim c129 (fun z => z.elim c142 (fun z => Int32.not_lt.mpr c172 z.2))) _
        · exact better ⟨c112, Int32.not_lt.mp c123⟩ (Or.inr (Or.inr ⟨c155, Int32.not_le.mp c172⟩)) _
end FB
section PF
set_option maxHeartbeats 2000000 in
theorem pp_fewest : PP_fewest := by
  intro X h a b c hi
  obtain ⟨D, w, S, L, W, K, ⟨hm1, bk, hb, hb1, hb2⟩, hc, hl, hs, hn, hw, hk, ha, hx, hh, hp⟩ := id hi
  obtain ⟨hD6, hw60, hD, hD', hwk, hwk', hwg, hwg', hpd, hln, her, hS, hL, hW, hK⟩ := id hc
  have mD := hD'; have m6 := hD6; have h6 := hD6; have mL := hL; have hL := hn.2.1; have m12 := hn.1; have h12 := hn.1
  have w1 := hw.2.1
  have w2 := hw.1
  have bad : ¬ (isLt a D ∧ inI b 0 9999 ∧ inI c 0 5) → E X 59 FM_fewest 0 [.ref 57, .int a, .int b, .int c, U0, U0, U0, U0, U0] [] h (fun r2 h2 => -1 = r2 ∧ Inv h2) := fun nA => by
    refine (FM_fewest_0 (FM_fewest_1 (FM_fewest_2 (Nat.le_of_ble_eq_true rfl) (FM_isDistrict_n mD m6 (fun j2m u2m e2m => (FM_fewest_5 (fun z => absurd z (by decide)) (fun _ => (FM_fewest_8 (FM_fewest_9 (FM_fewest_10 (FM_fewest_13 (Nat.le_of_ble_eq_true rfl) (FM_in_c (fun c13 => (FM_fewest_16 (fun z => absurd z (by decide)) (fun _ => (FM_fewest_19 (FM_fewest_20 (FM_fewest_21 (FM_fewest_22 (Nat.le_of_ble_eq_true rfl) (FM_in_c (fun c22 => (FM_fewest_25 (fun _ => (FM_fewest_30 (FM_fewest_31 (FM_fewest_32 (FM_fewest_33 (Nat.le_of_ble_eq_true rfl) ?_))))) (fun z => absurd z (by decide)))) (fun c22 => (FM_fewest_25 (fun z => absurd z (by decide)) (fun _ => (FM_fewest_28 (FM_fewest_29 ?_))))))))))))) (fun c13 => (FM_fewest_16 (fun _ => (FM_fewest_28 (FM_fewest_29 ?_))) (fun z => absurd z (by decide)))))))))))) (fun n2m => (FM_fewest_5 (fun _ => (FM_fewest_28 (FM_fewest_29 ?_))) (fun z => absurd z (by decide))))))))
    · exact absurd ⟨⟨j2m, u2m, e2m⟩, c13, c22⟩ nA
    all_goals exact ⟨rfl, hi⟩
  refine (FC_fewest_0 (FC_fewest_1 (FC_fewest_2 (Nat.le_of_ble_eq_true rfl) (FC_isDistrict_n hD h6 (fun j2 u2 e2 => (FC_fewest_5 (fun z => absurd z (by decide)) (fun _ => (FC_fewest_8 (FC_fewest_9 (FC_fewest_10 (FC_fewest_13 (Nat.le_of_ble_eq_true rfl) (FC_within_c (fun c13 => (FC_fewest_16 (fun z => absurd z (by decide)) (fun _ => (FC_fewest_19 (FC_fewest_20 (FC_fewest_21 (FC_fewest_22 (Nat.le_of_ble_eq_true rfl) (FC_within_c (fun c22 => (FC_fewest_25 (fun _ => (FC_fewest_30 (FC_fewest_31 (FC_fewest_34 (FC_fewest_37 (FC_fewest_38 (FC_fewest_41 (FC_fewest_44 (FC_fewest_45 (FC_fewest_46 (Nat.le_of_ble_eq_true rfl) ?_)))))))))) (fun z => absurd z (by decide)))) (fun c22 => (FC_fewest_25 (fun z => absurd z (by decide)) (fun _ => (FC_fewest_28 (FC_fewest_29 ?_))))))))))))) (fun c13 => (FC_fewest_16 (fun _ => (FC_fewest_28 (FC_fewest_29 ?_))) (fun z => absurd z (by decide)))))))))))) (fun n2 => (FC_fewest_5 (fun _ => (FC_fewest_28 (FC_fewest_29 ?_))) (fun z => absurd z (by decide))))))))
  · obtain ⟨R, -, R5, eR⟩ := (isN_of (l := 0) (m := 5) rfl rfl (by omega) (by omega)).mp c22
    refine Wa_reached_c (R := R) w1 w2 R5 eR ?_
    refine (FC_fewest_49 (FC_fewest_50 (Nat.le_of_ble_eq_true rfl) ?_))
    refine Wo_bestSet_c hk.2.1 hk.1 ?_
    refine (FC_fewest_53 ?_)
    refine (FM_fewest_0 (FM_fewest_1 (FM_fewest_2 (Nat.le_of_ble_eq_true rfl) (FM_isDistrict_n mD m6 (fun j2m u2m e2m => (FM_fewest_5 (fun z => absurd z (by decide)) (fun _ => (FM_fewest_8 (FM_fewest_9 (FM_fewest_10 (FM_fewest_13 (Nat.le_of_ble_eq_true rfl) (FM_in_c (fun z13 => (FM_fewest_16 (fun z => absurd z (by decide)) (fun _ => (FM_fewest_19 (FM_fewest_20 (FM_fewest_21 (FM_fewest_22 (Nat.le_of_ble_eq_true rfl) (FM_in_c (fun z22 => (FM_fewest_25 (fun _ => (FM_fewest_30 (FM_fewest_31 (FM_fewest_32 (FM_fewest_33 (Nat.le_of_ble_eq_true rfl) ?_))))) (fun z => absurd z (by decide)))) (fun z22 => (FM_fewest_25 (fun z => absurd z (by decide)) (fun _ => (FM_fewest_28 (FM_fewest_29 ?_))))))))))))) (fun z13 => (FM_fewest_16 (fun _ => (FM_fewest_28 (FM_fewest_29 ?_))) (fun z => absurd z (by decide)))))))))))) (fun n2m => (FM_fewest_5 (fun _ => (FM_fewest_28 (FM_fewest_29 ?_))) (fun z => absurd z (by decide))))))))
    · refine FM_reachedBy_c (R := R) hW w2 R5 eR ?_
      refine (FM_fewest_36 (FM_fewest_38 (FM_fewest_39 (FM_fewest_41 (FM_fewest_42 ?_)))))
      refine FM_fewest_w hK hk.1 (fun a7 a8 => ?_) K 0 _ _ (by omega)
      refine (FM_fewest_88 (FM_fewest_89 (FM_fewest_91 (FM_fewest_92 ?_))))
      refine FM_fewest_l hK hk.1 ?_ (2 ^ K) 0 (-1) _ (by omega) rfl
      refine ⟨?_, hi⟩
      have e1 : rou (h.1 12) (h.1 13) W ((1 : Int32) <<< (a &&& 31)) R = rou (h.1 80) (h.1 81) W ((1 : Int32) <<< (a &&& 31)) R := rou_cg (fun k hk' => ⟨(hw.2.2 k hk').2.1, (hw.2.2 k hk').2.2.1⟩) R
      have e2 : ∀ s, wIn (h.1 17) s K = wIn (h.1 84) s K := fun s => wIn_cg K (fun k hk' => (hk.2.2 k hk').2.1)
      rw [e1, e2]
      exact bst_cg (fun x => sO_cg K (fun k hk' => (hk.2.2 k hk').2.2.1)) (fun x => sO_cg K (fun k hk' => (hk.2.2 k hk').2.2.2)) (2 ^ K)
    · exact absurd c22 z22
    · exact absurd c13 z13
    · exact absurd ⟨j2, u2, e2⟩ n2m
  · exact bad (fun z => c22 z.2.2)
  · exact bad (fun z => c13 z.2.1)
  · exact bad (fun z => n2 z.1)
end PF
