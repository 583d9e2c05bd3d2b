section LV
variable {X : SX} {d D dd c k o : Nat} {h : HH} {Q : Int32 → HH → Prop} {s : EC} {x y z v n wg kk : Int32}
theorem FM_pays_s (e1 : x = nI dd) (h1 : dd < 6) (hw : h.1 57 11 = wg) (q : Q 0 (sM h (ePay (ePay (ePay s dd kk wg 0) dd kk wg 1) dd kk wg 2))) : E X (d + 1) FM_pays 0 [.ref 57, .int x, .int kk, U0, U0, U0] [] (sM h s) Q := by
  subst e1
  refine (FM_pays_0 (FM_pays_1 ?_))
  refine FM_pays_i (c := 0) h1 (by omega) hw (fun _ _ => FM_pays_i (c := 1) h1 (by omega) hw (fun _ _ => FM_pays_i (c := 2) h1 (by omega) hw (fun _ _ => ?_)))
  refine (FM_pays_2 (FM_pays_3 (FM_pays_4 (fun _ => (FM_pays_128 ?_)) (fun z => absurd z (by decide)))))
  exact q
theorem FM_lends_s (e1 : x = nI dd) (h1 : dd < 6) (q : Q 0 (sM h (eLoan (eRem s dd kk) dd kk))) : E X (d + 1) FM_lends 0 [.ref 57, .int x, .int kk, U0] [] (sM h s) Q := by
  subst e1
  have nx : ∀ s, Q 0 (sM h (eLoan s dd kk)) → E X (d + 1) FM_lends 19 [.ref 57, .int (nI dd), .int kk, U0] [] (sM h s) Q := by
    intro s q
    unfold eLoan at q
    refine (FM_lends_19 (FM_lends_20 (FM_lends_21 (FM_lends_22 (FM_lends_23 (FM_lends_24 (FM_lends_25 (fun c25 => (FM_lends_71 ?_)) (fun c25 => (FM_lends_28 (FM_lends_29 (FM_lends_30 (FM_lends_33 (FM_lends_34 (FM_lends_35 (FM_lends_36 (FM_lends_37 (FM_lends_38n (nI_addE (nI_mulE (show (3 : Int32) = nI 3 from rfl) (by first | assumption | exact rfl)) (show (1 : Int32) = nI 1 from rfl)) (by omega) (FM_lends_39 (FM_lends_40 (FM_lends_41 (FM_lends_42 (FM_lends_43 (FM_lends_44 (FM_lends_45 (FM_lends_46 (FM_lends_47 (FM_lends_48 (Nat.le_of_ble_eq_true rfl) ?_)))))))))))))))))))))))))))
    · rw [bt_g4] at c25
      rw [if_neg c25] at q
      exact q
    · rw [bt_g4] at c25
      rw [if_pos c25] at q
      rw [sM_g (ix60 h1 (show 1 < 3 by omega))]
      refine FM_gets_s (c := 1) (nI_addE (nI_mulE (show (3 : Int32) = nI 3 from rfl) rfl) rfl) h1 (by omega) ?_
      refine (FM_lends_51 (FM_lends_52 (FM_lends_55 (FM_lends_56 (FM_lends_57n (by first | assumption | exact rfl) (by omega) (FM_lends_58 (FM_lends_59 (FM_lends_60n (by first | assumption | exact rfl) (by omega) (FM_lends_61 (FM_lends_62 (FM_lends_63 (FM_lends_66 (FM_lends_67 (FM_lends_68 (FM_lends_71 ?_)))))))))))))))
      rw [sM_g (ix62 h1), sM_p (ix62 h1), sM_13, sM_p13]
      simp only [eSet]
      rw [up_ne (show dd * 15 + 8 ≠ dd * 15 + (5 + 1) by omega)]
      have e : up (up s.1 (dd * 15 + (5 + 1)) (mn 99999 (s.1 (dd * 15 + (5 + 1)) + 3 * s.1 (dd * 15 + (2 + 1))))) (dd * 15 + 8) (s.1 (dd * 15 + 8) + 3 * s.1 (dd * 15 + (2 + 1))) = up (up s.1 (dd * 15 + 8) (s.1 (dd * 15 + 8) + 3 * s.1 (dd * 15 + 3))) (dd * 15 + (5 + 1)) (mn 99999 (s.1 (dd * 15 + (5 + 1)) + 3 * s.1 (dd * 15 + 3))) := by
        funext y
        unfold up
        by_cases z1 : y = dd * 15 + 8
        · rw [if_pos z1, if_neg (by omega), if_pos z1]
        · rw [if_neg z1, if_neg z1]
      rw [e]
      exact q
  unfold eRem at q
  refine (FM_lends_0 (FM_lends_1 (FM_lends_2 (FM_lends_3 (FM_lends_4 (FM_lends_5 (FM_lends_6 (fun c6 => ?_) (fun c6 => (FM_lends_9 (FM_lends_10 (FM_lends_13 (FM_lends_14 (FM_lends_15n (by first | assumption | exact rfl) (by omega) (FM_lends_16 (FM_lends_17 (by decide) (FM_lends_18n (by first | assumption | exact rfl) (by omega) ?_))))))))))))))))
  · rw [bt_g5] at c6
    rw [if_neg c6] at q
    exact nx _ q
  · rw [bt_g5] at c6
    rw [if_pos c6] at q
    rw [sM_g (ix62 h1), sM_p (ix62 h1)]
    exact nx _ q
theorem FM_lives_i {p : Nat} {g acc : Int32} {a6 a7 a8 a9 : Value} (h1 : dd < 6) (hc : c < 3) (hp : s.1 (dd * 15 + 1) = nI p) (hp1 : 1 ≤ p) (hp2 : p ≤ 99) (q : ∀ a6 a7 a8 a9 : Value, E X (d + 2) FM_lives 60 [.ref 57, .int (nI dd), .int kk, .int g, .int (acc + eMs s dd c g), .int (nI c + -1), a6, a7, a8, a9] [] (sM h (eIt s dd c g)) Q) : E X (d + 2) FM_lives 60 [.ref 57, .int (nI dd), .int kk, .int g, .int acc, .int (nI c), a6, a7, a8, a9] [] (sM h s) Q := by
  have ne : ¬ s.1 (dd * 15 + 1) = 0 := by
    rw [hp]
    intro y
    have := nI_inj (b := 0) y (by omega) (by omega)
    omega
  have nx : ∀ n, n = eNd s dd c g → E X (d + 2) FM_lives 91 [.ref 57, .int (nI dd), .int kk, .int g, .int acc, .int (nI c), .int (nI (3 * dd + c)), a7, a8, a9] [.int n] (sM h s) Q := by
    intro n hn
    subst hn
    refine (FM_lives_91 (FM_lives_93 (FM_lives_94 (FM_lives_96 (FM_lives_97 (FM_lives_98 (FM_lives_101 (FM_lives_102n (by first | assumption | exact rfl) (by omega) (FM_lives_103 (FM_lives_104 (FM_lives_107 (FM_lives_109n (by first | assumption | exact rfl) (by omega) (FM_lives_110 (FM_lives_111 (FM_lives_114 (FM_lives_115n (by first | assumption | exact rfl) (by omega) (FM_lives_116 ?_ (FM_lives_117 (Nat.le_of_ble_eq_true rfl) (FM_least_s (FM_lives_120 (Nat.le_of_ble_eq_true rfl) (FM_least_s (FM_lives_123 (FM_lives_125 (FM_lives_126 (FM_lives_129 (FM_lives_130 (FM_lives_131n (by first | assumption | exact rfl) (by omega) (FM_lives_132 (FM_lives_134 (FM_lives_135n (by first | assumption | exact rfl) (by omega) (FM_lives_136 (FM_lives_137 (FM_lives_140 (FM_lives_142 (FM_lives_143n (by first | assumption | exact rfl) (by omega) (FM_lives_144 (FM_lives_146 (FM_lives_147 (FM_lives_150 (FM_lives_151n (by first | assumption | exact rfl) (by omega) (FM_lives_152 (FM_lives_153 (FM_lives_154n (by first | assumption | exact rfl) (by omega) (FM_lives_155 (FM_lives_156 (FM_lives_157 (FM_lives_160 (FM_lives_162 (FM_lives_163 (FM_lives_166 (FM_lives_167n (by first | assumption | exact rfl) (by omega) (FM_lives_168 (FM_lives_169 (FM_lives_170 (FM_lives_173 (FM_lives_175 (FM_lives_177 (FM_lives_178 (FM_lives_180 (FM_lives_181 (FM_lives_184 (FM_lives_186 (FM_lives_187n (by first | assumption | exact rfl) (by omega) (FM_lives_188 (FM_lives_190 (FM_lives_191n (by first | assumption | exact rfl) (by omega) (FM_lives_192 (FM_lives_193 (FM_lives_196 (FM_lives_198 (FM_lives_199n (by first | assumption | exact rfl) (by omega) (FM_lives_200 (FM_lives_202 (FM_lives_204 (by decide) (FM_lives_205 (FM_lives_206n (by first | assumption | exact rfl) (by omega) (FM_lives_207 (FM_lives_208 (FM_lives_211 (FM_lives_213 (FM_lives_214n (by first | assumption | exact rfl) (by omega) (FM_lives_215 (FM_lives_217 (FM_lives_219 (by decide) (FM_lives_220 (FM_lives_221n (by first | assumption | exact rfl) (by omega) (FM_lives_222 (FM_lives_224 (FM_lives_226 (FM_lives_227 (FM_lives_229 (FM_lives_232 ?_))))))))))))))))))))))))))))))))))))))))))))))))))))))))))))))))))))))))))))))))))))))))))))
    · rw [sM_g (ix59 h1)]; exact ne
    · simp only [sM_g (ix58 h1), sM_p (ix58 h1), sM_g (ix59 h1), sM_g (ix61 h1 hc), sM_p (ix61 h1 hc), sM_14, sM_p14, sM_g (ix63 h1 hc), sM_p (ix63 h1 hc), sM_g (ix64 h1 hc), sM_p (ix64 h1 hc), sM_g (ix60 h1 hc), sM_p (ix60 h1 hc), eSet]
      have q := q (.int (nI (3 * dd + c))) (.int (eNd s dd c g)) (.int (eT s dd c (eNd s dd c g))) (.int (eMs s dd c g))
      have v0 : ∀ f v, up f (dd * 15 + 0) v (dd * 15 + (5 + c)) = f (dd * 15 + (5 + c)) := fun f v => up_ne (by omega)
      have v1 : ∀ f v, up f (dd * 15 + 0) v (dd * 15 + 1) = f (dd * 15 + 1) := fun f v => up_ne (by omega)
      have v2 : ∀ f v, up f (dd * 15 + (5 + c)) v (dd * 15 + 1) = f (dd * 15 + 1) := fun f v => up_ne (by omega)
      have v3 : ∀ f v, up f (dd * 15 + 0) v (dd * 15 + (9 + c)) = f (dd * 15 + (9 + c)) := fun f v => up_ne (by omega)
      have v4 : ∀ f v, up f (dd * 15 + (5 + c)) v (dd * 15 + (9 + c)) = f (dd * 15 + (9 + c)) := fun f v => up_ne (by omega)
      have v5 : ∀ f v, up f (dd * 15 + 0) v (dd * 15 + (12 + c)) = f (dd * 15 + (12 + c)) := fun f v => up_ne (by omega)
      have v6 : ∀ f v, up f (dd * 15 + (5 + c)) v (dd * 15 + (12 + c)) = f (dd * 15 + (12 + c)) := fun f v => up_ne (by omega)
      have v7 : ∀ f v, up f (dd * 15 + (9 + c)) v (dd * 15 + (12 + c)) = f (dd * 15 + (12 + c)) := fun f v => up_ne (by omega)
      have v8 : ∀ f v, up f (dd * 15 + 0) v (dd * 15 + (2 + c)) = f (dd * 15 + (2 + c)) := fun f v => up_ne (by omega)
      have v9 : ∀ f v, up f (dd * 15 + (5 + c)) v (dd * 15 + (2 + c)) = f (dd * 15 + (2 + c)) := fun f v => up_ne (by omega)
      have v10 : ∀ f v, up f (dd * 15 + (9 + c)) v (dd * 15 + (2 + c)) = f (dd * 15 + (2 + c)) := fun f v => up_ne (by omega)
      have v11 : ∀ f v, up f (dd * 15 + (12 + c)) v (dd * 15 + (2 + c)) = f (dd * 15 + (2 + c)) := fun f v => up_ne (by omega)
      simp only [eIt, eSuf, eBuy, eMs, eT, v0, v1, v2, v3, v4, v5, v6, v7, v8, v9, v10, v11] at q
      simp only [v0, v1, v2, v3, v4, v5, v6, v7, v8, v9, v10, v11]
      exact q
  unfold eNd at nx
  have e3 : (3 : Int32) * nI dd + nI c = nI (3 * dd + c) := nI_addE (nI_mulE (show (3 : Int32) = nI 3 from rfl) rfl) rfl
  refine (FM_lives_60 (FM_lives_62 (fun c62 => ?_) (fun c62 => (FM_lives_65 (FM_lives_66 (FM_lives_67 (FM_lives_68 (FM_lives_70 (FM_lives_71 (FM_lives_73 (FM_lives_74 (FM_lives_77 (FM_lives_79n (nI_addE (nI_mulE (show (3 : Int32) = nI 3 from rfl) (by first | assumption | exact rfl)) (by first | assumption | exact rfl)) (by omega) (FM_lives_80 (FM_lives_82 (fun c82 => (FM_lives_89 (FM_lives_90 ?_))) (fun c82 => (FM_lives_85 (FM_lives_86 (FM_lives_90 ?_)))))))))))))))))))
  · exact absurd ((ltN rfl (show (0 : Int32) = nI 0 from rfl) (by omega) (by omega)).mp c62) (by omega)
  · have hc0 : ¬ c = 0 := fun y => c82 (by rw [y]; rfl)
    rw [e3]
    refine nx _ ?_
    rw [if_neg hc0, sM_g (ix60 h1 hc)]
  · have hc0 : c = 0 := nI_inj (b := 0) c82 (by omega) (by omega)
    rw [e3]
    refine nx _ ?_
    rw [if_pos hc0, sM_g (ix60 h1 hc)]
theorem FM_lives_s {p : Nat} (e1 : x = nI dd) (h1 : dd < 6) (hw : h.1 57 11 = wg) (hp : s.1 (dd * 15 + 1) = nI p) (hp1 : 1 ≤ p) (hp2 : p ≤ 99) (q : Q (eLack s dd kk wg) (sM h (eLive s dd kk wg))) : E X (d + 2) FM_lives 0 [.ref 57, .int x, .int kk, U0, U0, U0, U0, U0, U0, U0] [] (sM h s) Q := by
  subst e1
  have nx : ∀ g, g = eGiv s dd kk → E X (d + 2) FM_lives 31 [.ref 57, .int (nI dd), .int kk, U0, U0, U0, U0, U0, U0, U0] [.int g] (sM h s) Q := by
    intro g hg
    subst hg
    have p1 : (eA s dd kk wg).1 (dd * 15 + 1) = nI p := (eA_p pr_i).trans hp
    have p2 : (eIt (eA s dd kk wg) dd 2 (eGiv s dd kk)).1 (dd * 15 + 1) = nI p := (eIt_p pr_i (by omega)).trans p1
    have p3 : (eIt (eIt (eA s dd kk wg) dd 2 (eGiv s dd kk)) dd 1 (eGiv s dd kk)).1 (dd * 15 + 1) = nI p := (eIt_p pr_i (by omega)).trans p2
    refine (FM_lives_31 (FM_lives_32 (FM_lives_33 (FM_lives_36 (FM_lives_37 (FM_lives_38n (by first | assumption | exact rfl) (by omega) (FM_lives_39 (FM_lives_40 (FM_lives_41n (by first | assumption | exact rfl) (by omega) (FM_lives_42 (FM_lives_43 (FM_lives_44 (FM_lives_45 (Nat.le_of_ble_eq_true rfl) ?_)))))))))))))
    rw [sM_g (ix58 h1), sM_p (ix58 h1)]
    refine FM_pays_s rfl h1 hw ?_
    refine (FM_lives_48 (FM_lives_49 (FM_lives_50 (FM_lives_51 (Nat.le_of_ble_eq_true rfl) (FM_lends_s (by first | assumption | exact rfl) h1 (FM_lives_54 (FM_lives_55 (FM_lives_57 (FM_lives_58 ?_)))))))))
    refine FM_lives_i (c := 2) h1 (by omega) p1 hp1 hp2 (fun _ _ _ _ => ?_)
    refine FM_lives_i (c := 1) h1 (by omega) p2 hp1 hp2 (fun _ _ _ _ => ?_)
    refine FM_lives_i (c := 0) h1 (by omega) p3 hp1 hp2 (fun _ _ _ _ => ?_)
    refine (FM_lives_60 (FM_lives_62 (fun _ => (FM_lives_235 (FM_lives_237 ?_))) (fun z => absurd z (by decide))))
    exact q
  unfold eGiv at nx
  have ix0 : ixM 60 (3 * dd) = some (dd * 15 + (2 + 0)) := ix60 h1 (c := 0) (by omega)
  refine (FM_lives_0 (FM_lives_1 (FM_lives_2 (FM_lives_3 (FM_lives_4 (FM_lives_5 (FM_lives_6 (fun c6 => (FM_lives_30 ?_)) (fun c6 => (FM_lives_9 (FM_lives_10 (FM_lives_11 (FM_lives_14 (FM_lives_15 (FM_lives_16 (FM_lives_17n (nI_mulE (show (3 : Int32) = nI 3 from rfl) (by first | assumption | exact rfl)) (by omega) (FM_lives_18 (FM_lives_19 (FM_lives_22 (FM_lives_23n (by first | assumption | exact rfl) (by omega) (FM_lives_24 (Nat.le_of_ble_eq_true rfl) (FM_least_s (FM_lives_27 ?_))))))))))))))))))))))
  · rw [bt_g3] at c6
    exact nx _ (by rw [if_neg c6])
  · rw [bt_g3] at c6
    rw [sM_g ix0, sM_g (ix58 h1)]
    exact nx _ (by rw [if_pos c6])
end LV
