section FB
variable {X : SX} {d D W K : Nat} {h : HH} {Q : Int32 → HH → Prop} {x y z v nd : Int32}
theorem bst_lt {H V : Int32 → Int32} {near need : Int32} {s t : Nat} (hs : s < 256) (ht : bst H V near need s = nI t) (hts : t < s) : ∃ p q : Nat, p ≤ 12 ∧ q ≤ 12 ∧ bcI (nI t) = nI p ∧ mcI (nI t) 12 = nI p ∧ bcI (nI s) = nI q ∧ mcI (nI s) 12 = nI q := by
  obtain ⟨a1, a2, a3⟩ := bc_mc t (by omega)
  obtain ⟨b1, b2, b3⟩ := bc_mc s hs
  exact ⟨_, _, a3, b3, a1.trans a2, a2, b1.trans b2, b2⟩
theorem Wo_bestSet_l (hK : h.1 16 3 = nI K) (h8 : K ≤ 8) {near : Int32} (k : Q (bst (fun x => sO (h.1 18) x K) (fun x => sO (h.1 19) x K) near nd (2 ^ K)) h) : ∀ (m s : Nat) (b bw : Int32) (a7 a8 : Value), s + m = 2 ^ K → b = bst (fun x => sO (h.1 18) x K) (fun x => sO (h.1 19) x K) near nd s → (b ≠ -1 → bw = sO (h.1 19) b K) → E X (d + 1) Wo_bestSet 15 [.ref 16, .int x, .int nd, .int near, .int b, .int bw, .int (nI s), a7, a8] [] h Q := by
  have e2 : (1 : Int32) <<< (h.1 16 3 &&& 31) = nI (2 ^ K) := by rw [hK]; exact pw8 K (by omega)
  have p8 := pw_le h8
  intro m
  induction m with
  | zero =>
    intro s b bw a7 a8 hs hb hbw
    obtain rfl : s = 2 ^ K := by omega
    refine (Wo_bestSet_15 (Wo_bestSet_17 (Wo_bestSet_18 (Wo_bestSet_19 (Wo_bestSet_22 (Wo_bestSet_23 (fun c23 => (Wo_bestSet_118 (Wo_bestSet_120 ?_))) (fun c23 => ?_)))))))
    · rw [hb]; exact k
    · rw [e2] at c23; exact absurd (Int32.le_refl _) c23
  | succ m ih =>
    intro s b bw a7 a8 hs hb hbw
    have skip : ¬ (nI s &&& (near ^^^ (-1)) = 0 ∧ nd ≤ sO (h.1 18) (nI s) K) → ∀ a7 a8 : Value, E X (d + 1) Wo_bestSet 15 [.ref 16, .int x, .int nd, .int near, .int b, .int bw, .int (nI s + 1), a7, a8] [] h Q := fun g a7 a8 => by
      rw [nI_1]
      exact ih (s + 1) b bw a7 a8 (by omega) (by rw [bst, if_neg (fun z => g z.1)]; exact hb) hbw
    have worse : ¬ (b = -1 ∨ mcI (nI s) 12 < mcI b 12 ∨ mcI (nI s) 12 = mcI b 12 ∧ sO (h.1 19) b K < sO (h.1 19) (nI s) K) → ∀ a7 a8 : Value, E X (d + 1) Wo_bestSet 15 [.ref 16, .int x, .int nd, .int near, .int b, .int bw, .int (nI s + 1), a7, a8] [] h Q := fun g a7 a8 => by
      rw [nI_1]
      exact ih (s + 1) b bw a7 a8 (by omega) (by rw [bst, if_neg (fun z => g (by rw [hb]; exact z.2))]; exact hb) hbw
    have better : (nI s &&& (near ^^^ (-1)) = 0 ∧ nd ≤ sO (h.1 18) (nI s) K) → (b = -1 ∨ mcI (nI s) 12 < mcI b 12 ∨ mcI (nI s) 12 = mcI b 12 ∧ sO (h.1 19) b K < sO (h.1 19) (nI s) K) → ∀ a7 a8 : Value, E X (d + 1) Wo_bestSet 15 [.ref 16, .int x, .int nd, .int near, .int (nI s), .int (sO (h.1 19) (nI s) K), .int (nI s + 1), a7, a8] [] h Q := fun g1 g2 a7 a8 => by
      rw [nI_1]
      exact ih (s + 1) (nI s) _ a7 a8 (by omega) (by rw [bst, if_pos ⟨g1, by rw [← hb]; exact g2⟩]) (fun _ => rfl)
    refine (Wo_bestSet_15 (Wo_bestSet_17 (Wo_bestSet_18 (Wo_bestSet_19 (Wo_bestSet_22 (Wo_bestSet_23 (fun c23 => (Wo_bestSet_118 (Wo_bestSet_120 ?_))) (fun c23 => (Wo_bestSet_26 (Wo_bestSet_28 (Wo_bestSet_29 (Wo_bestSet_30 (Wo_bestSet_31 (Wo_bestSet_32 (fun c32 => (Wo_bestSet_112 (Wo_bestSet_115 ?_))) (fun c32 => (Wo_bestSet_35 (Wo_bestSet_36 (Wo_bestSet_38 (Wo_bestSet_39 (Wo_bestSet_42 (Nat.le_of_ble_eq_true rfl) ?_)))))))))))))))))))
    · rw [e2] at c23; exact absurd ((leN rfl rfl (by omega) (by omega)).mp c23) (by omega)
    · exact skip (fun z => c32 z.1) _ _
    · refine Wo_sumOver_c (a := 18) rfl hK h8 ?_
      refine (Wo_bestSet_45 (Wo_bestSet_46 (fun c46 => (Wo_bestSet_52 (Wo_bestSet_53 (Wo_bestSet_55 (Wo_bestSet_56 (Wo_bestSet_59 (Nat.le_of_ble_eq_true rfl) ?_)))))) (fun c46 => (Wo_bestSet_49 (Wo_bestSet_112 (Wo_bestSet_115 ?_))))))
      · refine Wo_sumOver_c (a := 19) rfl hK h8 ?_
        have g1 : nI s &&& (near ^^^ (-1)) = 0 ∧ nd ≤ sO (h.1 18) (nI s) K := ⟨c32, c46⟩
        rcases bst_r (H := fun x => sO (h.1 18) x K) (V := fun x => sO (h.1 19) x K) (near := near) (need := nd) s with e | ⟨t, t1, t2⟩
        · have b1 : b = -1 := hb.trans e
          refine (Wo_bestSet_62 (Wo_bestSet_64 (Wo_bestSet_66 (Wo_bestSet_67 (fun c67 => ?_) (fun c67 => (Wo_bestSet_70 (Wo_bestSet_71 (Wo_bestSet_85 (Wo_bestSet_87 (Wo_bestSet_89 (fun _ => (Wo_bestSet_104 (Wo_bestSet_106 (Wo_bestSet_108 (Wo_bestSet_110 (Wo_bestSet_112 (Wo_bestSet_115 ?_))))))) (fun z => absurd z (by decide))))))))))))
          · exact absurd b1 c67
          · exact better g1 (Or.inl b1) _ _
        · have b1 : b = nI t := hb.trans t2
          obtain ⟨p, q, hp, hq, B1, M1, B2, M2⟩ := bst_lt (s := s) (by omega) t2 t1
          have sp := spn p (by omega) q (by omega)
          have nb : ¬ b = -1 := by rw [b1]; exact nI_m1 (by omega)
          have hbw := hbw nb
          rw [b1, M1, M2] at worse better
          refine (Wo_bestSet_62 (Wo_bestSet_64 (Wo_bestSet_66 (Wo_bestSet_67 (fun c67 => (Wo_bestSet_74 (Wo_bestSet_76 (Nat.le_of_ble_eq_true rfl) (JI_bitCount_c (Wo_bestSet_79 (Wo_bestSet_81 (Nat.le_of_ble_eq_true rfl) (JI_bitCount_c (Wo_bestSet_84 (Wo_bestSet_85 (Wo_bestSet_87 (Wo_bestSet_89 (fun c89 => (Wo_bestSet_104 (Wo_bestSet_106 (Wo_bestSet_108 (Wo_bestSet_110 (Wo_bestSet_112 (Wo_bestSet_115 ?_))))))) (fun c89 => (Wo_bestSet_92 (Wo_bestSet_94 (fun c94 => (Wo_bestSet_112 (Wo_bestSet_115 ?_))) (fun c94 => (Wo_bestSet_97 (Wo_bestSet_99 (Wo_bestSet_101 (fun c101 => (Wo_bestSet_112 (Wo_bestSet_115 ?_))) (fun c101 => (Wo_bestSet_104 (Wo_bestSet_106 (Wo_bestSet_108 (Wo_bestSet_110 (Wo_bestSet_112 (Wo_bestSet_115 ?_))))))))))))))))))))))))) (fun c67 => (Wo_bestSet_70 (Wo_bestSet_71 (Wo_bestSet_85 (Wo_bestSet_87 (Wo_bestSet_89 (fun _ => (Wo_bestSet_104 (Wo_bestSet_106 (Wo_bestSet_108 (Wo_bestSet_110 (Wo_bestSet_112 (Wo_bestSet_115 ?_))))))) (fun z => absurd z (by decide))))))))))))
          · rw [b1, B1, B2] at c89
            have := (fa_lt _ _).mp c89
            rw [sp, show (0 : Int32).toInt = 0 by decide] at this
            exact better g1 (Or.inr (Or.inl ((ltN rfl rfl (by omega) (by omega)).mpr (by omega)))) _ _
          · rw [b1, B1, B2] at c89 c94
            have h1 : ¬ (0 : Int32).toInt < (nI p - nI q).toInt := fun y => c89 ((fa_lt _ _).mpr y)
            have h2 : ¬ (nI p - nI q).toInt = (0 : Int32).toInt := fun y => c94 ((fa_eq _ _).mpr y)
            rw [sp, show (0 : Int32).toInt = 0 by decide] at h1 h2
            rw [b1]
            refine worse (fun z => ?_) _ _
            rcases z with z | z | z
            · exact nb (b1.trans z)
            · have := (ltN rfl rfl (by omega) (by omega)).mp z; omega
            · have := nI_inj z.1 (by omega) (by omega); omega
          · rw [b1]
            refine worse (fun z => ?_) _ _
            rw [b1, B1, B2] at c89 c94
            have h1 : ¬ (0 : Int32).toInt < (nI p - nI q).toInt := fun y => c89 ((fa_lt _ _).mpr y)
            have h2 : (nI p - nI q).toInt = (0 : Int32).toInt := (fa_eq _ _).mp c94
            rw [sp, show (0 : Int32).toInt = 0 by decide] at h1 h2
            rcases z with z | z | z
            · exact nb (b1.trans z)
            · have := (ltN rfl rfl (by omega) (by omega)).mp z; omega
            · rw [hbw, b1] at c101; exact Int32.not_lt.mpr c101 z.2
          · rw [b1, B1, B2] at c94
            have h2 : (nI p - nI q).toInt = (0 : Int32).toInt := (fa_eq _ _).mp c94
            rw [sp, show (0 : Int32).toInt = 0 by decide] at h2
            rw [hbw, b1] at c101
            exact better g1 (Or.inr (Or.inr ⟨by rw [show q = p by omega], Int32.not_le.mp c101⟩)) _ _
          · exact absurd c67 nb
      · exact skip (fun z => c46 z.2) _ _
theorem Wo_bestSet_c (hK : h.1 16 3 = nI K) (h8 : K ≤ 8) (k : Q (bst (fun x => sO (h.1 18) x K) (fun x => sO (h.1 19) x K) (wIn (h.1 17) x K) nd (2 ^ K)) h) : E X (d + 1) Wo_bestSet 0 [.ref 16, .int x, .int nd, U0, U0, U0, U0, U0, U0] [] h Q := by
  refine (Wo_bestSet_0 (Wo_bestSet_1 (Wo_bestSet_2 (Nat.le_of_ble_eq_true rfl) ?_)))
  refine (?_ : E X d Wo_worksIn 0 [.ref 16, .int x, U0, U0] [] h _)
  refine (Wo_worksIn_0 (Wo_worksIn_1 (Wo_worksIn_2 (Wo_worksIn_3 ?_))))
  refine Wo_worksIn_l hK h8 ?_ K 0 (by omega)
  refine (Wo_bestSet_5 (Wo_bestSet_6 (Wo_bestSet_7 (Wo_bestSet_9 (Wo_bestSet_10 (Wo_bestSet_12 (Wo_bestSet_13 ?_)))))))
  exact Wo_bestSet_l hK h8 k (2 ^ K) 0 (-1) 0 _ _ (by omega) rfl (fun z => absurd rfl z)
end FB
