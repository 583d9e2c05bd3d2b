section SQ
variable {X : SX} {d D w S s0 I N : Nat} {h : HH} {Q : Int32 → HH → Prop} {a b c e i n x y z v : Int32}
theorem Sh_get_c (e1 : x = nI s0) (e2 : y = nI I) (hs : s0 < 4) (hi : I < 40) (k : Q (h.1 56 (s0 * 40 + I)) h) : E X d Sh_get 0 [.ref 53, .int x, .int y] [] h Q := by
  subst e1; subst e2
  refine (Sh_get_0 (Sh_get_1 (Sh_get_4 (Sh_get_5 (Sh_get_7 (Sh_get_8 (Sh_get_9 (Sh_get_10n (nI_addE (nI_mulE (by first | assumption | exact rfl) (show (40 : Int32) = nI 40 from rfl)) (by first | assumption | exact rfl)) (by omega) (Sh_get_11 ?_)))))))))
  exact k
theorem Sh_allWithin_l (hs : s0 < 4) (hN : I + N ≤ 40) (t : (∀ j, j < N → inI (h.1 56 (s0 * 40 + I + j)) (-99) 99) → Q 1 h) (f : ¬ (∀ j, j < N → inI (h.1 56 (s0 * 40 + I + j)) (-99) 99) → Q 0 h) : ∀ (m j : Nat), j + m = N → (∀ k, k < j → inI (h.1 56 (s0 * 40 + I + k)) (-99) 99) → E X (d + 1) Sh_allWithin 3 [.ref 53, .int (nI s0), .int (nI I), .int (nI N), .int 99, .int (nI (I + j))] [] h Q := by
  intro m
  induction m with
  | zero =>
    intro j hj ha
    obtain rfl : j = N := by omega
    refine (Sh_allWithin_3 (Sh_allWithin_5 (Sh_allWithin_6 (Sh_allWithin_7 (Sh_allWithin_8 (fun c8 => (Sh_allWithin_37 (Sh_allWithin_38 rfl ?_))) (fun c8 => ?_))))))
    · exact t ha
    · rw [nI_add] at c8; exact absurd (Int32.le_refl _) c8
  | succ m ih =>
    intro j hj ha
    refine (Sh_allWithin_3 (Sh_allWithin_5 (Sh_allWithin_6 (Sh_allWithin_7 (Sh_allWithin_8 (fun c8 => (Sh_allWithin_37 (Sh_allWithin_38 rfl ?_))) (fun c8 => (Sh_allWithin_11 (Sh_allWithin_12 (Sh_allWithin_13 (Sh_allWithin_15 (Nat.le_of_ble_eq_true rfl) (Sh_get_c (by first | assumption | exact rfl) (by first | assumption | exact rfl) (by omega) (by omega) (Sh_allWithin_18 (Sh_allWithin_20 (Sh_allWithin_21 (Sh_allWithin_23 (Nat.le_of_ble_eq_true rfl) (FC_within_c (fun c23 => (Sh_allWithin_26 (fun _ => (Sh_allWithin_31 (Sh_allWithin_34 ?_))) (fun z => absurd z (by decide)))) (fun c23 => (Sh_allWithin_26 (fun z => absurd z (by decide)) (fun _ => (Sh_allWithin_29 (Sh_allWithin_30 rfl ?_)))))))))))))))))))))
    · rw [nI_add] at c8; exact absurd ((leN rfl rfl (by omega) (by omega)).mp c8) (by omega)
    · rw [nI_1]
      refine ih (j + 1) (by omega) (fun k hk => ?_)
      by_cases z : k = j
      · subst z; rw [Nat.add_assoc]; exact c23
      · exact ha k (by omega)
    · exact f (fun q => c23 (by have := q j (by omega); rw [Nat.add_assoc] at this; exact this))
theorem cS_4 {i0 b0 o : Nat} (hS : h.1 4 4 = nI S) : ∀ j, (cS h S w (i0 * 4 + b0) I o j).1 4 4 = nI (S + j)
  | 0 => hS
  | j + 1 => by unfold cS; simp [pI1, Nat.add_assoc]
theorem mS_15 {o : Nat} (hS : h.1 57 15 = nI S) : ∀ j, (mS h S w I o a b j).1 57 15 = nI (S + j)
  | 0 => hS
  | j + 1 => by unfold mS; simp [pI1, Nat.add_assoc]
theorem FC_signs_l {i0 b0 : Nat} {a7 : Value} {a8 : Int32} (hS : h.1 4 4 = nI S) (hw : h.1 1 6 = nI w) (hw60 : w ≤ 60) (hi0 : i0 < 6) (hb0 : b0 ≤ 3) (hs : s0 < 4) (hN : N ≤ w + 1) (hSN : S + N ≤ 200) (hi : 0 < N → i = nI I ∧ I + N ≤ 40)
    (K : Q (nI (S + N)) (pI (cS h S w (i0 * 4 + b0) I (s0 * 40) N) 0 8 0)) : ∀ (m j : Nat) (a10 : Value), j + m = N → E X (d + 2) FC_signs 180 [.ref 0, .int (nI i0), .int (nI b0), .int (nI s0), .int e, .int i, .int (nI N), a7, .int a8, .int (nI j), a10] [] (cS h S w (i0 * 4 + b0) I (s0 * 40) j) Q := by
  intro m
  induction m with
  | zero =>
    intro j a10 hj
    obtain rfl : j = N := by omega
    refine (FC_signs_180 (FC_signs_182 (FC_signs_184 (fun c184 => (FC_signs_243 (FC_signs_244 (FC_signs_245 (FC_signs_248 (FC_signs_251 (FC_signs_254 (Nat.le_of_ble_eq_true rfl) (FC_done_c (FC_signs_257 ?_))))))))) (fun c184 => ?_))))
    · rw [cS_4 hS]; exact K
    · exact absurd (Int32.le_refl _) c184
  | succ m ih =>
    intro j a10 hj
    obtain ⟨rfl, hI⟩ := hi (by omega)
    have eW : (cS h S w (i0 * 4 + b0) I (s0 * 40) j).1 1 6 = nI w := by rw [cS_r (by omega), hw]
    refine (FC_signs_180 (FC_signs_182 (FC_signs_184 (fun c184 => (FC_signs_243 (FC_signs_244 (FC_signs_245 (FC_signs_248 (FC_signs_251 (FC_signs_254 (Nat.le_of_ble_eq_true rfl) (FC_done_c ?_)))))))) (fun c184 => (FC_signs_187 (FC_signs_188 (FC_signs_189 (FC_signs_190 (FC_signs_193 (FC_signs_196 (FC_signs_198 (FC_signs_199 (Nat.le_of_ble_eq_true rfl) (Si_place_c (by first | assumption | exact rfl) (by first | assumption | exact rfl) (nI_subE (by repeat (first | assumption | exact rfl | refine fld_pI1 (by decide) ?_ | refine fld_pI2 (by decide) ?_ | refine fld_pI3 ?_ | refine nI_addE ?_ (show (1 : Int32) = nI 1 from rfl))) (by first | assumption | exact rfl) (by omega)) (FC_signs_202 (FC_signs_204 (FC_signs_205 (FC_signs_208 (FC_signs_211 (FC_signs_213 (FC_signs_214 (FC_signs_217 (FC_signs_218 (FC_signs_220 (FC_signs_222 (FC_signs_223 (Nat.le_of_ble_eq_true rfl) (Sh_get_c (by first | assumption | exact rfl) (nI_addE (by first | assumption | exact rfl) (by first | assumption | exact rfl)) (by omega) (by omega) ?_))))))))))))))))))))))))))
    · exact absurd ((leN rfl rfl (by omega) (by omega)).mp c184) (by omega)
    · refine (FC_signs_226 (FC_signs_227 (FC_signs_230 (FC_signs_233 (Nat.le_of_ble_eq_true rfl) ?_))))
      rw [eW, cS_r (r := 56) (by omega), ← Nat.add_assoc]
      refine Si_add_c (S := S + j) (cS_4 hS j) (by omega) rfl (by omega) ?_
      refine (FC_signs_236 (FC_signs_237 (FC_signs_240 ?_)))
      rw [nI_1]
      exact ih (j + 1) _ (by omega)
theorem FM_signs_v {i0 b0 : Nat} (hs : s0 < 4) (hN : N ≤ 20) (hi : 0 < N → i = nI I ∧ I + N ≤ 40)
    (t : (∀ j, j < N → inI (h.1 106 (40 * s0 + I + j)) (-99) 99) → E X (d + 2) FM_signs 211 [.ref 57, .int a, .int b, .int (nI s0), .int e, .int i, .int (nI N), .int 0] [] h Q) (f : ¬ (∀ j, j < N → inI (h.1 106 (40 * s0 + I + j)) (-99) 99) → Q (-1) (pI h 57 0 3)) : ∀ (m j : Nat), j + m = N → (∀ k, k < j → inI (h.1 106 (40 * s0 + I + k)) (-99) 99) → E X (d + 2) FM_signs 164 [.ref 57, .int a, .int b, .int (nI s0), .int e, .int i, .int (nI N), .int (nI j)] [] h Q := by
  intro m
  induction m with
  | zero =>
    intro j hj ha
    obtain rfl : j = N := by omega
    refine (FM_signs_164 (FM_signs_166 (FM_signs_168 (fun c168 => (FM_signs_208 (FM_signs_209 ?_))) (fun c168 => ?_))))
    · exact t ha
    · exact absurd (Int32.le_refl _) c168
  | succ m ih =>
    intro j hj ha
    obtain ⟨rfl, hI⟩ := hi (by omega)
    refine (FM_signs_164 (FM_signs_166 (FM_signs_168 (fun c168 => (FM_signs_208 (FM_signs_209 ?_))) (fun c168 => (FM_signs_171 (FM_signs_172 (FM_signs_175 (FM_signs_177 (FM_signs_178 (FM_signs_179 (FM_signs_181 (FM_signs_182 (FM_signs_184 (FM_signs_185n (nI_addE (nI_addE (nI_mulE (show (40 : Int32) = nI 40 from rfl) (by first | assumption | exact rfl)) (by first | assumption | exact rfl)) (by first | assumption | exact rfl)) (by omega) (FM_signs_186 (FM_signs_188 (FM_signs_190 (Nat.le_of_ble_eq_true rfl) (FM_in_c (fun c190 => (FM_signs_193 (fun _ => (FM_signs_202 (FM_signs_205 ?_))) (fun z => absurd z (by decide)))) (fun c190 => (FM_signs_193 (fun z => absurd z (by decide)) (fun _ => (FM_signs_196 (FM_signs_197 (FM_signs_198 (Nat.le_of_ble_eq_true rfl) (FM_refused_c (FM_signs_201 ?_))))))))))))))))))))))))))
    · exact absurd ((leN rfl rfl (by omega) (by omega)).mp c168) (by omega)
    · rw [nI_1]
      refine ih (j + 1) (by omega) (fun k hk => ?_)
      by_cases z : k = j
      · subst z; exact c190
      · exact ha k (by omega)
    · exact f (fun q => c190 (q j (by omega)))
theorem FM_signs_l {i0 b0 : Nat} (hS : h.1 57 15 = nI S) (hw : h.1 57 10 = nI w) (hw60 : w ≤ 60) (hi0 : i0 < 6) (hb0 : b0 ≤ 3) (hs : s0 < 4) (hN : N ≤ w + 1) (hSN : S + N ≤ 200) (hi : 0 < N → i = nI I ∧ I + N ≤ 40)
    (K : Q (nI (S + N)) (pI (mS h S w I (s0 * 40) a b N) 57 0 0)) : ∀ (m j : Nat), j + m = N → E X (d + 2) FM_signs 211 [.ref 57, .int a, .int b, .int (nI s0), .int e, .int i, .int (nI N), .int (nI j)] [] (mS h S w I (s0 * 40) a b j) Q := by
  intro m
  induction m with
  | zero =>
    intro j hj
    obtain rfl : j = N := by omega
    refine (FM_signs_211 (FM_signs_213 (FM_signs_215 (fun c215 => (FM_signs_252 (FM_signs_253 (FM_signs_254 (FM_signs_257 (Nat.le_of_ble_eq_true rfl) (FM_done_c (FM_signs_260 ?_))))))) (fun c215 => ?_))))
    · rw [mS_15 hS]; exact K
    · exact absurd (Int32.le_refl _) c215
  | succ m ih =>
    intro j hj
    obtain ⟨rfl, hI⟩ := hi (by omega)
    have eW : (mS h S w I (s0 * 40) a b j).1 57 10 = nI w := by rw [mS_57 (by omega), hw]
    refine (FM_signs_211 (FM_signs_213 (FM_signs_215 (fun c215 => (FM_signs_252 (FM_signs_253 (FM_signs_254 (FM_signs_257 (Nat.le_of_ble_eq_true rfl) (FM_done_c ?_)))))) (fun c215 => (FM_signs_218 (FM_signs_219 (FM_signs_220 (FM_signs_221 (FM_signs_222 (FM_signs_225 (FM_signs_227 (FM_signs_228 (FM_signs_229 (FM_signs_232 (FM_signs_234 (FM_signs_235 (FM_signs_236 (FM_signs_238 (FM_signs_239 (FM_signs_241 (FM_signs_242n (nI_addE (nI_addE (nI_mulE (show (40 : Int32) = nI 40 from rfl) (by first | assumption | exact rfl)) (by first | assumption | exact rfl)) (by first | assumption | exact rfl)) (by omega) (FM_signs_243 (Nat.le_of_ble_eq_true rfl) ?_))))))))))))))))))))))
    · exact absurd ((leN rfl rfl (by omega) (by omega)).mp c215) (by omega)
    · rw [eW, pk_sub (by omega), mS_r (r := 106) (by omega), Nat.mul_comm 40 s0]
      refine FM_tells_c (S := S + j) (mS_15 hS j) (by omega) ?_
      rw [eW]
      refine (FM_signs_246 (FM_signs_249 ?_))
      rw [nI_1]
      exact ih (j + 1) (by omega)
theorem Sh_faultAs_c (hs : s0 < 4) (e1 : x = nI s0) (t10 : h.1 54 s0 = -1 → Q 10 h) (t11 : ¬ h.1 54 s0 = -1 → ¬ h.1 54 s0 = v → Q 11 h) (t0 : ¬ h.1 54 s0 = -1 → h.1 54 s0 = v → Q 0 h) : E X (d + 1) Sh_faultAs 0 [.ref 53, .int x, .int v] [] h Q := by
  subst e1
  refine (Sh_faultAs_0 (Sh_faultAs_1 (Sh_faultAs_2 (Nat.le_of_ble_eq_true rfl) (Sh_isMissing_c (by first | assumption | exact rfl) (by omega) (fun c2 => (Sh_faultAs_5 (fun z => absurd z (by decide)) (fun _ => (Sh_faultAs_8 (Sh_faultAs_10 ?_))))) (fun c2 => (Sh_faultAs_5 (fun _ => (Sh_faultAs_11 (Sh_faultAs_12 (Sh_faultAs_15 (Sh_faultAs_16n (by first | assumption | exact rfl) (by omega) (Sh_faultAs_17 (Sh_faultAs_18 (fun c18 => (Sh_faultAs_25 (Sh_faultAs_27 ?_))) (fun c18 => (Sh_faultAs_21 (Sh_faultAs_22 (Sh_faultAs_27 ?_))))))))))) (fun z => absurd z (by decide))))))))
  · exact t10 c2
  · exact t11 c2 c18
  · exact t0 c2 c18
theorem spn : ∀ l, l < 41 → ∀ n, n < 101 → (nI l - nI n).toInt = (l : Int) - (n : Int) := by decide +kernel
theorem span_n {l N : Nat} (hl : l ≤ 40) (hN : N ≤ 100) (hi : inI i 0 (nI l - nI N)) : ∃ I : Nat, i = nI I ∧ I + N ≤ l := by
  have h1 := (fa_le _ _).mp hi.1
  have h2 := (fa_le _ _).mp hi.2
  rw [spn l (by omega) N (by omega)] at h2
  rw [show (0 : Int32).toInt = 0 by decide] at h1
  refine ⟨i.toInt.toNat, ?_, by omega⟩
  apply (fa_eq _ _).mpr
  rw [nI_toInt (by omega)]
  omega
theorem n_span {l N I : Nat} (hl : l ≤ 40) (hN : N ≤ 100) (h : I + N ≤ l) : inI (nI I) 0 (nI l - nI N) := by
  refine ⟨(fa_le _ _).mpr ?_, (fa_le _ _).mpr ?_⟩
  · rw [nI_toInt (by omega), show (0 : Int32).toInt = 0 by decide]; omega
  · rw [spn l (by omega) N (by omega), nI_toInt (by omega)]; omega
theorem FC_signs_s (hh : iSheet h) (hD : h.1 2 1 = nI D) (h6 : D ≤ 6) (hS : h.1 4 4 = nI S) (hS2 : S ≤ 200) (hw : h.1 1 6 = nI w) (hw60 : w ≤ 60) (t : ∀ k, sSt h D w S a b c e i n k → k ≠ 0 → Q (-1) (pI h 0 8 (nI k)))
    (t0 : sSt h D w S a b c e i n 0 → ∀ i0 b0 s0 N I, i0 < D → b0 ≤ 3 → s0 < 4 → a = nI i0 → b = nI b0 → c = nI s0 → n = nI N → N ≤ 20 → N ≤ w + 1 → S + N ≤ 200 → (0 < N → i = nI I ∧ I + N ≤ 40) → Q (nI (S + N)) (pI (cS h S w (i0 * 4 + b0) I (s0 * 40) N) 0 8 0)) : E X (d + 3) FC_signs 0 [.ref 0, .int a, .int b, .int c, .int e, .int i, .int n, U0, U0, U0, U0] [] h Q := by
  have bad : ¬ sP1 D w a b c e n → Q (-1) (pI h 0 8 1) := fun g => t 1 (Or.inl ⟨g, rfl⟩) (by decide)
  have w1 : h.1 1 6 + 1 = nI (w + 1) := by rw [hw, nI_1]
  refine (FC_signs_0 (FC_signs_2 (FC_signs_3 (FC_signs_5 (Nat.le_of_ble_eq_true rfl) (FC_within_c (fun c5 => (FC_signs_8 (fun z => absurd z (by decide)) (fun _ => (FC_signs_11 (FC_signs_13 (FC_signs_14 (FC_signs_17 (FC_signs_20 (FC_signs_21 (FC_signs_22 (fun c22 => (FC_signs_29 (FC_signs_30 (FC_signs_32 (FC_signs_33 (FC_signs_34 (Nat.le_of_ble_eq_true rfl) (FC_isDistrict_n hD h6 (fun j34 u34 e34 => (FC_signs_37 (fun z => absurd z (by decide)) (fun _ => (FC_signs_40 (FC_signs_41 (Nat.le_of_ble_eq_true rfl) (FC_isSort_n (fun j41 u41 e41 => (FC_signs_44 (fun z => absurd z (by decide)) (fun _ => (FC_signs_47 (FC_signs_48 (Nat.le_of_ble_eq_true rfl) (FC_isSheet_n (fun j48 u48 e48 => (FC_signs_51 (fun z => absurd z (by decide)) (fun _ => (FC_signs_54 (FC_signs_56 (Nat.le_of_ble_eq_true rfl) (FC_isSheetSort_n (fun j56 u56 e56 => (FC_signs_59 (fun z => absurd z (by decide)) (fun _ => (FC_signs_62 (FC_signs_64 (fun z => absurd z (by decide)) (fun _ => (FC_signs_67 (FC_signs_68 (FC_signs_69 (Nat.le_of_ble_eq_true rfl) (FC_refuse_c (FC_signs_72 ?_))))))))))) (fun n56 => (FC_signs_59 (fun _ => (FC_signs_67 (FC_signs_68 (FC_signs_69 (Nat.le_of_ble_eq_true rfl) (FC_refuse_c (FC_signs_72 ?_)))))) (fun z => absurd z (by decide)))))))))) (fun n48 => (FC_signs_51 (fun _ => (FC_signs_67 (FC_signs_68 (FC_signs_69 (Nat.le_of_ble_eq_true rfl) (FC_refuse_c (FC_signs_72 ?_)))))) (fun z => absurd z (by decide)))))))))) (fun n41 => (FC_signs_44 (fun _ => (FC_signs_67 (FC_signs_68 (FC_signs_69 (Nat.le_of_ble_eq_true rfl) (FC_refuse_c (FC_signs_72 ?_)))))) (fun z => absurd z (by decide)))))))))) (fun n34 => (FC_signs_37 (fun _ => (FC_signs_67 (FC_signs_68 (FC_signs_69 (Nat.le_of_ble_eq_true rfl) (FC_refuse_c (FC_signs_72 ?_)))))) (fun z => absurd z (by decide))))))))))) (fun c22 => (FC_signs_25 (FC_signs_26 (FC_signs_30 (FC_signs_32 (FC_signs_33 (FC_signs_34 (Nat.le_of_ble_eq_true rfl) (FC_isDistrict_n hD h6 (fun j34 u34 e34 => (FC_signs_37 (fun z => absurd z (by decide)) (fun _ => (FC_signs_40 (FC_signs_41 (Nat.le_of_ble_eq_true rfl) (FC_isSort_n (fun j41 u41 e41 => (FC_signs_44 (fun z => absurd z (by decide)) (fun _ => (FC_signs_47 (FC_signs_48 (Nat.le_of_ble_eq_true rfl) (FC_isSheet_n (fun j48 u48 e48 => (FC_signs_51 (fun z => absurd z (by decide)) (fun _ => (FC_signs_54 (FC_signs_56 (Nat.le_of_ble_eq_true rfl) (FC_isSheetSort_n (fun j56 u56 e56 => (FC_signs_59 (fun z => absurd z (by decide)) (fun _ => (FC_signs_62 (FC_signs_64 (fun _ => (FC_signs_73 (FC_signs_74 (FC_signs_77 (FC_signs_80 (FC_signs_83 (FC_signs_85 (FC_signs_86 (FC_signs_89 (fun c89 => (FC_signs_98 (FC_signs_99 (FC_signs_102 (FC_signs_103 (FC_signs_105 (Nat.le_of_ble_eq_true rfl) ?_)))))) (fun c89 => (FC_signs_92 (FC_signs_93 (FC_signs_94 (Nat.le_of_ble_eq_true rfl) (FC_refuse_c (FC_signs_97 ?_))))))))))))))) (fun z => absurd z (by decide))))))) (fun n56 => (FC_signs_59 (fun _ => (FC_signs_67 (FC_signs_68 (FC_signs_69 (Nat.le_of_ble_eq_true rfl) (FC_refuse_c (FC_signs_72 ?_)))))) (fun z => absurd z (by decide)))))))))) (fun n48 => (FC_signs_51 (fun _ => (FC_signs_67 (FC_signs_68 (FC_signs_69 (Nat.le_of_ble_eq_true rfl) (FC_refuse_c (FC_signs_72 ?_)))))) (fun z => absurd z (by decide)))))))))) (fun n41 => (FC_signs_44 (fun _ => (FC_signs_67 (FC_signs_68 (FC_signs_69 (Nat.le_of_ble_eq_true rfl) (FC_refuse_c (FC_signs_72 ?_)))))) (fun z => absurd z (by decide)))))))))) (fun n34 => (FC_signs_37 (fun _ => (FC_signs_67 (FC_signs_68 (FC_signs_69 (Nat.le_of_ble_eq_true rfl) (FC_refuse_c (FC_signs_72 ?_)))))) (fun z => absurd z (by decide)))))))))))))))))))))) (fun c5 => (FC_signs_8 (fun _ => (FC_signs_29 (FC_signs_30 (FC_signs_32 (FC_signs_33 (FC_signs_34 (Nat.le_of_ble_eq_true rfl) (FC_isDistrict_n hD h6 (fun j34 u34 e34 => (FC_signs_37 (fun z => absurd z (by decide)) (fun _ => (FC_signs_40 (FC_signs_41 (Nat.le_of_ble_eq_true rfl) (FC_isSort_n (fun j41 u41 e41 => (FC_signs_44 (fun z => absurd z (by decide)) (fun _ => (FC_signs_47 (FC_signs_48 (Nat.le_of_ble_eq_true rfl) (FC_isSheet_n (fun j48 u48 e48 => (FC_signs_51 (fun z => absurd z (by decide)) (fun _ => (FC_signs_54 (FC_signs_56 (Nat.le_of_ble_eq_true rfl) (FC_isSheetSort_n (fun j56 u56 e56 => (FC_signs_59 (fun z => absurd z (by decide)) (fun _ => (FC_signs_62 (FC_signs_64 (fun z => absurd z (by decide)) (fun _ => (FC_signs_67 (FC_signs_68 (FC_signs_69 (Nat.le_of_ble_eq_true rfl) (FC_refuse_c (FC_signs_72 ?_))))))))))) (fun n56 => (FC_signs_59 (fun _ => (FC_signs_67 (FC_signs_68 (FC_signs_69 (Nat.le_of_ble_eq_true rfl) (FC_refuse_c (FC_signs_72 ?_)))))) (fun z => absurd z (by decide)))))))))) (fun n48 => (FC_signs_51 (fun _ => (FC_signs_67 (FC_signs_68 (FC_signs_69 (Nat.le_of_ble_eq_true rfl) (FC_refuse_c (FC_signs_72 ?_)))))) (fun z => absurd z (by decide)))))))))) (fun n41 => (FC_signs_44 (fun _ => (FC_signs_67 (FC_signs_68 (FC_signs_69 (Nat.le_of_ble_eq_true rfl) (FC_refuse_c (FC_signs_72 ?_)))))) (fun z => absurd z (by decide)))))))))) (fun n34 => (FC_signs_37 (fun _ => (FC_signs_67 (FC_signs_68 (FC_signs_69 (Nat.le_of_ble_eq_true rfl) (FC_refuse_c (FC_signs_72 ?_)))))) (fun z => absurd z (by decide))))))))))) (fun z => absurd z (by decide)))))))))
  · exact bad (fun z => by rw [w1] at c22; exact Int32.not_le.mpr c22 z.2.2.2.2.2)
  · exact bad (fun z => n56 z.2.2.2.1)
  · exact bad (fun z => n48 z.2.2.1)
  · exact bad (fun z => n41 z.2.1)
  · exact bad (fun z => n34 z.1)
  · have c22' : n ≤ nI (w + 1) := by rw [← w1]; exact Int32.not_lt.mp c22
    have p1 : sP1 D w a b c e n := ⟨⟨j34, u34, e34⟩, ⟨j41, Nat.zero_le _, u41, e41⟩, ⟨j48, Nat.zero_le _, u48, e48⟩, ⟨j56, Nat.zero_le _, u56, e56⟩, c5, c22'⟩
    obtain ⟨N, -, N20, eN⟩ := (isN_of (l := 0) (m := 20) rfl rfl (by omega) (by omega)).mp c5
    have Nw : N ≤ w + 1 := (leN eN rfl (by omega) (by omega)).mp c22'
    have p2 : nI S + n ≤ 200 := by rw [← hS]; exact c89
    have SN : S + N ≤ 200 := (leN (by rw [eN, nI_add]) (show (200 : Int32) = nI 200 from rfl) (by omega) (by omega)).mp p2
    obtain ⟨x1, x2, ⟨ln, -, ln40, eln⟩, x4⟩ := hh.1 j48 (by omega)
    have cl : c.toNatClampNeg = j48 := by rw [e48, nI_clamp (by omega)]
    refine Sh_faultAs_c (s0 := j48) (by omega) e48 (fun g => ?_) (fun g1 g2 => ?_) (fun g1 g2 => ?_)
    · refine (FC_signs_108 (FC_signs_110 (FC_signs_112 (fun z => absurd z (by decide)) (fun _ => (FC_signs_115 (FC_signs_116 (FC_signs_118 (Nat.le_of_ble_eq_true rfl) (FC_refuse_c (FC_signs_121 ?_)))))))))
      exact t 10 (Or.inr (Or.inr (Or.inl ⟨p1, p2, by rw [cl, ← x1]; exact g, rfl⟩))) (by decide)
    · refine (FC_signs_108 (FC_signs_110 (FC_signs_112 (fun z => absurd z (by decide)) (fun _ => (FC_signs_115 (FC_signs_116 (FC_signs_118 (Nat.le_of_ble_eq_true rfl) (FC_refuse_c (FC_signs_121 ?_)))))))))
      exact t 11 (Or.inr (Or.inr (Or.inr (Or.inl ⟨p1, p2, by rw [cl, ← x1]; exact g1, by rw [cl, ← x1]; exact g2, rfl⟩)))) (by decide)
    · have p3 : ¬ h.1 104 c.toNatClampNeg = -1 := by rw [cl, ← x1]; exact g1
      have p4 : h.1 104 c.toNatClampNeg = e := by rw [cl, ← x1]; exact g2
      refine (FC_signs_108 (FC_signs_110 (FC_signs_112 (fun _ => (FC_signs_122 (FC_signs_124 (fun c124 => (FC_signs_149 (FC_signs_151 (fun c151 => ?_) (fun c151 => (FC_signs_154 (FC_signs_155 (FC_signs_158 (FC_signs_159 (FC_signs_161 (FC_signs_163 (FC_signs_165 (Nat.le_of_ble_eq_true rfl) ?_))))))))))) (fun c124 => (FC_signs_127 (FC_signs_128 (FC_signs_131 (FC_signs_132 (FC_signs_134 (FC_signs_136 (Nat.le_of_ble_eq_true rfl) (Sh_spans_c (by first | assumption | exact rfl) (by omega) (fun c136 => (FC_signs_139 (fun _ => (FC_signs_149 (FC_signs_151 (fun c151 => ?_) (fun c151 => (FC_signs_154 (FC_signs_155 (FC_signs_158 (FC_signs_159 (FC_signs_161 (FC_signs_163 (FC_signs_165 (Nat.le_of_ble_eq_true rfl) ?_))))))))))) (fun z => absurd z (by decide)))) (fun c136 => (FC_signs_139 (fun z => absurd z (by decide)) (fun _ => (FC_signs_142 (FC_signs_143 (FC_signs_145 (Nat.le_of_ble_eq_true rfl) (FC_refuse_c (FC_signs_148 ?_))))))))))))))))))) (fun z => absurd z (by decide)))))
      · have N0 : N = 0 := by have := (leN eN (show (0 : Int32) = nI 0 from rfl) (by omega) (by omega)).mp c124; omega
        subst N0
        have fin := t0 (Or.inr (Or.inr (Or.inr (Or.inr (Or.inr (Or.inr ⟨p1, p2, p3, p4, Or.inl c124, fun I j _ _ q => absurd ((ltN rfl eN (by omega) (by omega)).mp q) (by omega), rfl⟩)))))) j34 j41 j48 0 0 u34 u41 (by omega) e34 e41 e48 eN N20 Nw SN (fun z => absurd z (by omega))
        refine (FC_signs_177 (FC_signs_178 ?_))
        rw [e34, e41, e48, eN]
        exact FC_signs_l hS hw hw60 (by omega) u41 (by omega) Nw SN (fun z => absurd z (by omega)) fin 0 0 _ rfl
      · exact absurd c124 c151
      · exact absurd c151 c124
      · have N0 : 0 < N := by
          have : ¬ N ≤ 0 := fun z => c124 ((leN eN (show (0 : Int32) = nI 0 from rfl) (by omega) (by omega)).mpr z)
          omega
        rw [x4, eln, eN] at c136
        obtain ⟨I, eI, hI⟩ := span_n ln40 (by omega) c136
        have p5 : sP5 h c i n := Or.inr (by rw [cl, eln, eN]; exact c136)
        have e56 : ∀ j, j < N → h.1 56 (j48 * 40 + I + j) = h.1 106 (40 * j48 + I + j) := fun j hj => by rw [hh.2 _ (by omega), Nat.mul_comm]
        rw [e34, e41, e48, eN, eI]
        refine (Sh_allWithin_0 (Sh_allWithin_1 ?_))
        refine Sh_allWithin_l (s0 := j48) (N := N) (I := I) (by omega) (by omega) (fun q => ?_) (fun q => ?_) N 0 (by omega) (fun k hk => absurd hk (by omega))
        · have p6 : sP6 h c i n := fun I' j e' h1 h2 => by
            rw [eI] at e'
            have := nI_inj e' (by omega) (by omega)
            subst this
            have hj : j < N := (ltN rfl eN (by omega) (by omega)).mp h2
            rw [cl, ← e56 j hj]; exact q j hj
          have fin := t0 (Or.inr (Or.inr (Or.inr (Or.inr (Or.inr (Or.inr ⟨p1, p2, p3, p4, p5, p6, rfl⟩)))))) j34 j41 j48 N I u34 u41 (by omega) e34 e41 e48 eN N20 Nw SN (fun _ => ⟨eI, by omega⟩)
          refine (FC_signs_168 (fun _ => (FC_signs_177 (FC_signs_178 ?_))) (fun z => absurd z (by decide)))
          exact FC_signs_l hS hw hw60 (by omega) u41 (by omega) Nw SN (fun _ => ⟨rfl, by omega⟩) fin N 0 _ (by omega)
        · refine (FC_signs_168 (fun z => absurd z (by decide)) (fun _ => (FC_signs_171 (FC_signs_172 (FC_signs_173 (Nat.le_of_ble_eq_true rfl) (FC_refuse_c (FC_signs_176 ?_)))))))
          refine t 3 (Or.inr (Or.inr (Or.inr (Or.inr (Or.inr (Or.inl ⟨p1, p2, p3, p4, p5, fun g => q (fun j hj => ?_), rfl⟩)))))) (by decide)
          rw [e56 j hj, ← cl]
          exact g I j eI (by omega) ((ltN rfl eN (by omega) (by omega)).mpr hj)
      · exact t 12 (Or.inr (Or.inr (Or.inr (Or.inr (Or.inl ⟨p1, p2, p3, p4, fun z => z.elim c124 (fun y => c136 (by rw [x4, ← cl]; exact y)), rfl⟩))))) (by decide)
  · have c22' : n ≤ nI (w + 1) := by rw [← w1]; exact Int32.not_lt.mp c22
    exact t 2 (Or.inr (Or.inl ⟨⟨⟨j34, u34, e34⟩, ⟨j41, Nat.zero_le _, u41, e41⟩, ⟨j48, Nat.zero_le _, u48, e48⟩, ⟨j56, Nat.zero_le _, u56, e56⟩, c5, c22'⟩, by rw [← hS]; exact c89, rfl⟩)) (by decide)
  · exact bad (fun z => n56 z.2.2.2.1)
  · exact bad (fun z => n48 z.2.2.1)
  · exact bad (fun z => n41 z.2.1)
  · exact bad (fun z => n34 z.1)
  all_goals exact bad (fun z => c5 z.2.2.2.2.1)
theorem FM_signs_s (hh : iSheet h) (hD : h.1 57 1 = nI D) (h6 : D ≤ 6) (hS : h.1 57 15 = nI S) (hS2 : S ≤ 200) (hw : h.1 57 10 = nI w) (hw60 : w ≤ 60) (t : ∀ k, sSt h D w S a b c e i n k → k ≠ 0 → Q (-1) (pI h 57 0 (nI k)))
    (t0 : sSt h D w S a b c e i n 0 → ∀ i0 b0 s0 N I, i0 < D → b0 ≤ 3 → s0 < 4 → a = nI i0 → b = nI b0 → c = nI s0 → n = nI N → N ≤ 20 → N ≤ w + 1 → S + N ≤ 200 → (0 < N → i = nI I ∧ I + N ≤ 40) → Q (nI (S + N)) (pI (mS h S w I (s0 * 40) a b N) 57 0 0)) : E X (d + 3) FM_signs 0 [.ref 57, .int a, .int b, .int c, .int e, .int i, .int n, U0] [] h Q := by
  have mD := hD
  have m6 := h6
  have bad : ¬ sP1 D w a b c e n → Q (-1) (pI h 57 0 1) := fun g => t 1 (Or.inl ⟨g, rfl⟩) (by decide)
  have w1 : h.1 57 10 + 1 = nI (w + 1) := by rw [hw, nI_1]
  have k3 : ∀ {x : Int32}, inI x 0 3 ↔ isN x 0 3 := isN_of (l := 0) (m := 3) rfl rfl (by omega) (by omega)
  have k2 : ∀ {x : Int32}, inI x 0 2 ↔ isN x 0 2 := isN_of (l := 0) (m := 2) rfl rfl (by omega) (by omega)
  by_cases p1 : sP1 D w a b c e n
  · obtain ⟨⟨i0, q1, q2⟩, ⟨b0, -, q3, q4⟩, ⟨s0, -, q5, q6⟩, q7, c5, q8⟩ := id p1
    obtain ⟨N, -, N20, eN⟩ := (isN_of (l := 0) (m := 20) rfl rfl (by omega) (by omega)).mp c5
    have Nw : N ≤ w + 1 := (leN eN rfl (by omega) (by omega)).mp q8
    obtain ⟨x1, x2, ⟨ln, -, ln40, eln⟩, x4⟩ := hh.1 s0 (by omega)
    have cl : c.toNatClampNeg = s0 := by rw [q6, nI_clamp (by omega)]
    subst q6
    refine (FM_signs_0 (FM_signs_1 (FM_signs_2 (Nat.le_of_ble_eq_true rfl) (FM_isDistrict_n mD m6 (fun j2 u2 e2 => (FM_signs_5 (fun z => absurd z (by decide)) (fun _ => (FM_signs_8 (FM_signs_9 (FM_signs_10 (FM_signs_11 (Nat.le_of_ble_eq_true rfl) (FM_in_c (fun c11 => (FM_signs_14 (fun z => absurd z (by decide)) (fun _ => (FM_signs_17 (FM_signs_18 (FM_signs_19 (FM_signs_20 (Nat.le_of_ble_eq_true rfl) (FM_in_c (fun c20 => (FM_signs_23 (fun z => absurd z (by decide)) (fun _ => (FM_signs_26 (FM_signs_28 (FM_signs_29 (FM_signs_30 (Nat.le_of_ble_eq_true rfl) (FM_in_c (fun c30 => (FM_signs_33 (fun z => absurd z (by decide)) (fun _ => (FM_signs_36 (FM_signs_38 (FM_signs_39 (FM_signs_41 (Nat.le_of_ble_eq_true rfl) (FM_in_c (fun c41 => (FM_signs_44 (fun z => absurd z (by decide)) (fun _ => (FM_signs_47 (FM_signs_49 (FM_signs_50 (FM_signs_53 (FM_signs_54 (FM_signs_55 (fun c55 => (FM_signs_64 (FM_signs_65 (FM_signs_68 (FM_signs_70 (FM_signs_71 (FM_signs_74 (fun c74 => (FM_signs_83 (FM_signs_84 (FM_signs_87 (FM_signs_88n (by first | assumption | exact rfl) (by omega) (FM_signs_89 (FM_signs_90 (fun c90 => (FM_signs_100 (FM_signs_101 (FM_signs_104 (FM_signs_105n (by first | assumption | exact rfl) (by omega) (FM_signs_106 (FM_signs_108 (fun c108 => (FM_signs_118 (FM_signs_120 (fun c120 => ?_) (fun c120 => (FM_signs_123 (FM_signs_125 (FM_signs_126 (FM_signs_127 (FM_signs_130 (FM_signs_131n (by first | assumption | exact rfl) (by omega) (FM_signs_132 (FM_signs_133 (FM_signs_134 (Nat.le_of_ble_eq_true rfl) (FM_in_c (fun c134 => (FM_signs_137 (fun z => absurd z (by decide)) (fun _ => (FM_signs_140 (FM_signs_142 (FM_signs_143 (FM_signs_146 (FM_signs_147n (by first | assumption | exact rfl) (by omega) (FM_signs_148 (FM_signs_150 (FM_signs_151 (fun c151 => ?_) (fun c151 => (FM_signs_154 (FM_signs_155 (FM_signs_157 (Nat.le_of_ble_eq_true rfl) (FM_refused_c (FM_signs_160 ?_))))))))))))))))) (fun c134 => (FM_signs_137 (fun _ => (FM_signs_154 (FM_signs_155 (FM_signs_157 (Nat.le_of_ble_eq_true rfl) (FM_refused_c (FM_signs_160 ?_)))))) (fun z => absurd z (by decide)))))))))))))))))) (fun c108 => (FM_signs_111 (FM_signs_112 (FM_signs_114 (Nat.le_of_ble_eq_true rfl) (FM_refused_c (FM_signs_117 ?_))))))))))))) (fun c90 => (FM_signs_93 (FM_signs_94 (FM_signs_96 (Nat.le_of_ble_eq_true rfl) (FM_refused_c (FM_signs_99 ?_))))))))))))) (fun c74 => (FM_signs_77 (FM_signs_78 (FM_signs_79 (Nat.le_of_ble_eq_true rfl) (FM_refused_c (FM_signs_82 ?_))))))))))))) (fun c55 => (FM_signs_58 (FM_signs_59 (FM_signs_60 (Nat.le_of_ble_eq_true rfl) (FM_refused_c (FM_signs_63 ?_))))))))))))))) (fun c41 => (FM_signs_44 (fun _ => (FM_signs_58 (FM_signs_59 (FM_signs_60 (Nat.le_of_ble_eq_true rfl) (FM_refused_c (FM_signs_63 ?_)))))) (fun z => absurd z (by decide)))))))))))) (fun c30 => (FM_signs_33 (fun _ => (FM_signs_58 (FM_signs_59 (FM_signs_60 (Nat.le_of_ble_eq_true rfl) (FM_refused_c (FM_signs_63 ?_)))))) (fun z => absurd z (by decide)))))))))))) (fun c20 => (FM_signs_23 (fun _ => (FM_signs_58 (FM_signs_59 (FM_signs_60 (Nat.le_of_ble_eq_true rfl) (FM_refused_c (FM_signs_63 ?_)))))) (fun z => absurd z (by decide)))))))))))) (fun c11 => (FM_signs_14 (fun _ => (FM_signs_58 (FM_signs_59 (FM_signs_60 (Nat.le_of_ble_eq_true rfl) (FM_refused_c (FM_signs_63 ?_)))))) (fun z => absurd z (by decide)))))))))))) (fun n2 => (FM_signs_5 (fun _ => (FM_signs_58 (FM_signs_59 (FM_signs_60 (Nat.le_of_ble_eq_true rfl) (FM_refused_c (FM_signs_63 ?_)))))) (fun z => absurd z (by decide))))))))
    · have p2 : nI S + n ≤ 200 := by rw [← hS]; exact c74
      have SN : S + N ≤ 200 := (leN (by rw [eN, nI_add]) (show (200 : Int32) = nI 200 from rfl) (by omega) (by omega)).mp p2
      have N0 : N = 0 := by have := (leN eN (show (0 : Int32) = nI 0 from rfl) (by omega) (by omega)).mp c120; omega
      subst N0
      have fin := t0 (Or.inr (Or.inr (Or.inr (Or.inr (Or.inr (Or.inr ⟨p1, p2, by rw [cl]; exact c90, by rw [cl]; exact c108, Or.inl c120, fun I j _ _ q => absurd ((ltN rfl eN (by omega) (by omega)).mp q) (by omega), rfl⟩)))))) i0 b0 s0 0 0 q1 q3 (by omega) q2 q4 rfl eN N20 Nw SN (fun z => absurd z (by omega))
      refine (FM_signs_161 (FM_signs_162 ?_))
      rw [eN]
      refine FM_signs_v (i0 := i0) (b0 := b0) (N := 0) (I := 0) (by omega) (by omega) (fun z => absurd z (by omega)) (fun _ => ?_) (fun g => absurd (fun j hj => absurd hj (by omega)) g) 0 0 rfl (fun k hk => absurd hk (by omega))
      exact FM_signs_l (i0 := i0) (b0 := b0) hS hw hw60 (by omega) q3 (by omega) Nw SN (fun z => absurd z (by omega)) fin 0 0 rfl
    · have p2 : nI S + n ≤ 200 := by rw [← hS]; exact c74
      have SN : S + N ≤ 200 := (leN (by rw [eN, nI_add]) (show (200 : Int32) = nI 200 from rfl) (by omega) (by omega)).mp p2
      have N0 : 0 < N := by
        have : ¬ N ≤ 0 := fun z => c120 ((leN eN (show (0 : Int32) = nI 0 from rfl) (by omega) (by omega)).mpr z)
        omega
      rw [eln] at c134 c151
      rw [show (1 : Int32) = nI 1 from rfl] at c134
      obtain ⟨I, rfl, hI1⟩ := span_n ln40 (by omega) c134
      rw [pk_sub (by omega)] at c151
      have hI : I + N ≤ ln := by have := (leN eN rfl (by omega) (by omega)).mp c151; omega
      have p5 : sP5 h (nI s0) (nI I) n := Or.inr (by rw [cl, eln, eN]; exact n_span ln40 (by omega) hI)
      refine (FM_signs_161 (FM_signs_162 ?_))
      subst eN
      refine FM_signs_v (i0 := i0) (b0 := b0) (N := N) (I := I) (by omega) (by omega) (fun _ => ⟨rfl, by omega⟩) (fun q => ?_) (fun q => ?_) N 0 (by omega) (fun k hk => absurd hk (by omega))
      · have p6 : sP6 h (nI s0) (nI I) (nI N) := fun I' j e' h1 h2 => by
          have := nI_inj e' (by omega) (by omega)
          subst this
          have hj : j < N := (ltN rfl rfl (by omega) (by omega)).mp h2
          rw [cl]; exact q j hj
        have fin := t0 (Or.inr (Or.inr (Or.inr (Or.inr (Or.inr (Or.inr ⟨p1, p2, by rw [cl]; exact c90, by rw [cl]; exact c108, p5, p6, rfl⟩)))))) i0 b0 s0 N I q1 q3 (by omega) q2 q4 rfl rfl N20 Nw SN (fun _ => ⟨rfl, by omega⟩)
        exact FM_signs_l (i0 := i0) (b0 := b0) hS hw hw60 (by omega) q3 (by omega) Nw SN (fun _ => ⟨rfl, by omega⟩) fin N 0 (by omega)
      · refine t 3 (Or.inr (Or.inr (Or.inr (Or.inr (Or.inr (Or.inl ⟨p1, p2, by rw [cl]; exact c90, by rw [cl]; exact c108, p5, fun g => q (fun j hj => ?_), rfl⟩)))))) (by decide)
        have := g I j rfl (by omega) ((ltN rfl rfl (by omega) (by omega)).mpr hj)
        rw [cl] at this
        exact this
    · have p2 : nI S + n ≤ 200 := by rw [← hS]; exact c74
      refine t 12 (Or.inr (Or.inr (Or.inr (Or.inr (Or.inl ⟨p1, p2, by rw [cl]; exact c90, by rw [cl]; exact c108, fun z => ?_, rfl⟩))))) (by decide)
      rcases z with z | z
      · exact c120 z
      · rw [cl, eln, eN] at z
        obtain ⟨I, rfl, hI⟩ := span_n ln40 (by omega) z
        refine c151 ?_
        rw [eln, pk_sub (by omega)]
        exact (leN eN rfl (by omega) (by omega)).mpr (by omega)
    · have p2 : nI S + n ≤ 200 := by rw [← hS]; exact c74
      refine t 12 (Or.inr (Or.inr (Or.inr (Or.inr (Or.inl ⟨p1, p2, by rw [cl]; exact c90, by rw [cl]; exact c108, fun z => ?_, rfl⟩))))) (by decide)
      rcases z with z | z
      · exact c120 z
      · rw [cl, eln, eN] at z
        obtain ⟨I, rfl, hI⟩ := span_n ln40 (by omega) z
        have N0 : 0 < N := by
          have : ¬ N ≤ 0 := fun z => c120 ((leN eN (show (0 : Int32) = nI 0 from rfl) (by omega) (by omega)).mpr z)
          omega
        refine c134 ?_
        rw [eln]
        exact n_span (N := 1) ln40 (by omega) (by omega)
    · exact t 11 (Or.inr (Or.inr (Or.inr (Or.inl ⟨p1, by rw [← hS]; exact c74, by rw [cl]; exact c90, by rw [cl]; exact c108, rfl⟩)))) (by decide)
    · exact t 10 (Or.inr (Or.inr (Or.inl ⟨p1, by rw [← hS]; exact c74, by rw [cl]; exact c90, rfl⟩))) (by decide)
    · exact t 2 (Or.inr (Or.inl ⟨p1, by rw [← hS]; exact c74, rfl⟩)) (by decide)
    · exact absurd q8 (by rw [← w1]; exact c55)
    · exact absurd c5 c41
    · exact absurd (k2.mpr q7) c30
    · exact absurd (k3.mpr ⟨s0, Nat.zero_le _, q5, rfl⟩) c20
    · exact absurd (k3.mpr ⟨b0, Nat.zero_le _, q3, q4⟩) c11
    · exact absurd ⟨i0, q1, q2⟩ n2
  · have all : ∀ {P : Prop}, inI c 0 3 → P ∨ True := fun _ => Or.inr trivial
    by_cases z3 : inI c 0 3
    · obtain ⟨s0, -, q5, q6⟩ := k3.mp z3
      subst q6
      refine (FM_signs_0 (FM_signs_1 (FM_signs_2 (Nat.le_of_ble_eq_true rfl) (FM_isDistrict_n mD m6 (fun j2 u2 e2 => (FM_signs_5 (fun z => absurd z (by decide)) (fun _ => (FM_signs_8 (FM_signs_9 (FM_signs_10 (FM_signs_11 (Nat.le_of_ble_eq_true rfl) (FM_in_c (fun c11 => (FM_signs_14 (fun z => absurd z (by decide)) (fun _ => (FM_signs_17 (FM_signs_18 (FM_signs_19 (FM_signs_20 (Nat.le_of_ble_eq_true rfl) (FM_in_c (fun c20 => (FM_signs_23 (fun z => absurd z (by decide)) (fun _ => (FM_signs_26 (FM_signs_28 (FM_signs_29 (FM_signs_30 (Nat.le_of_ble_eq_true rfl) (FM_in_c (fun c30 => (FM_signs_33 (fun z => absurd z (by decide)) (fun _ => (FM_signs_36 (FM_signs_38 (FM_signs_39 (FM_signs_41 (Nat.le_of_ble_eq_true rfl) (FM_in_c (fun c41 => (FM_signs_44 (fun z => absurd z (by decide)) (fun _ => (FM_signs_47 (FM_signs_49 (FM_signs_50 (FM_signs_53 (FM_signs_54 (FM_signs_55 (fun c55 => ?_) (fun c55 => (FM_signs_58 (FM_signs_59 (FM_signs_60 (Nat.le_of_ble_eq_true rfl) (FM_refused_c (FM_signs_63 ?_))))))))))))))) (fun c41 => (FM_signs_44 (fun _ => (FM_signs_58 (FM_signs_59 (FM_signs_60 (Nat.le_of_ble_eq_true rfl) (FM_refused_c (FM_signs_63 ?_)))))) (fun z => absurd z (by decide)))))))))))) (fun c30 => (FM_signs_33 (fun _ => (FM_signs_58 (FM_signs_59 (FM_signs_60 (Nat.le_of_ble_eq_true rfl) (FM_refused_c (FM_signs_63 ?_)))))) (fun z => absurd z (by decide)))))))))))) (fun c20 => (FM_signs_23 (fun _ => (FM_signs_58 (FM_signs_59 (FM_signs_60 (Nat.le_of_ble_eq_true rfl) (FM_refused_c (FM_signs_63 ?_)))))) (fun z => absurd z (by decide)))))))))))) (fun c11 => (FM_signs_14 (fun _ => (FM_signs_58 (FM_signs_59 (FM_signs_60 (Nat.le_of_ble_eq_true rfl) (FM_refused_c (FM_signs_63 ?_)))))) (fun z => absurd z (by decide)))))))))))) (fun n2 => (FM_signs_5 (fun _ => (FM_signs_58 (FM_signs_59 (FM_signs_60 (Nat.le_of_ble_eq_true rfl) (FM_refused_c (FM_signs_63 ?_)))))) (fun z => absurd z (by decide))))))))
      · exact absurd ⟨⟨j2, u2, e2⟩, k3.mp c11, k3.mp c20, k2.mp c30, c41, by rw [← w1]; exact c55⟩ p1
      all_goals exact bad p1
    · refine (FM_signs_0 (FM_signs_1 (FM_signs_2 (Nat.le_of_ble_eq_true rfl) (FM_isDistrict_n mD m6 (fun j2 u2 e2 => (FM_signs_5 (fun z => absurd z (by decide)) (fun _ => (FM_signs_8 (FM_signs_9 (FM_signs_10 (FM_signs_11 (Nat.le_of_ble_eq_true rfl) (FM_in_c (fun c11 => (FM_signs_14 (fun z => absurd z (by decide)) (fun _ => (FM_signs_17 (FM_signs_18 (FM_signs_19 (FM_signs_20 (Nat.le_of_ble_eq_true rfl) (FM_in_c (fun c20 => (FM_signs_23 (fun z => absurd z (by decide)) (fun _ => (FM_signs_26 (FM_signs_28 (FM_signs_29 (FM_signs_30 (Nat.le_of_ble_eq_true rfl) (FM_in_c (fun c30 => (FM_signs_33 (fun z => absurd z (by decide)) (fun _ => (FM_signs_36 (FM_signs_38 (FM_signs_39 (FM_signs_41 (Nat.le_of_ble_eq_true rfl) (FM_in_c (fun c41 => (FM_signs_44 (fun z => absurd z (by decide)) (fun _ => (FM_signs_47 (FM_signs_49 (FM_signs_50 (FM_signs_53 (FM_signs_54 (FM_signs_55 (fun c55 => ?_) (fun c55 => (FM_signs_58 (FM_signs_59 (FM_signs_60 (Nat.le_of_ble_eq_true rfl) (FM_refused_c (FM_signs_63 ?_))))))))))))))) (fun c41 => (FM_signs_44 (fun _ => (FM_signs_58 (FM_signs_59 (FM_signs_60 (Nat.le_of_ble_eq_true rfl) (FM_refused_c (FM_signs_63 ?_)))))) (fun z => absurd z (by decide)))))))))))) (fun c30 => (FM_signs_33 (fun _ => (FM_signs_58 (FM_signs_59 (FM_signs_60 (Nat.le_of_ble_eq_true rfl) (FM_refused_c (FM_signs_63 ?_)))))) (fun z => absurd z (by decide)))))))))))) (fun c20 => (FM_signs_23 (fun _ => (FM_signs_58 (FM_signs_59 (FM_signs_60 (Nat.le_of_ble_eq_true rfl) (FM_refused_c (FM_signs_63 ?_)))))) (fun z => absurd z (by decide)))))))))))) (fun c11 => (FM_signs_14 (fun _ => (FM_signs_58 (FM_signs_59 (FM_signs_60 (Nat.le_of_ble_eq_true rfl) (FM_refused_c (FM_signs_63 ?_)))))) (fun z => absurd z (by decide)))))))))))) (fun n2 => (FM_signs_5 (fun _ => (FM_signs_58 (FM_signs_59 (FM_signs_60 (Nat.le_of_ble_eq_true rfl) (FM_refused_c (FM_signs_63 ?_)))))) (fun z => absurd z (by decide))))))))
      · exact absurd c20 z3
      all_goals exact bad p1
end SQ
section PSG2
set_option maxHeartbeats 2000000 in
theorem pp_signs : PP_signs := by
  intro X h a b c e i n hi
  obtain ⟨D, w, S, L, W, K, ⟨hm1, bk, hb, hb1, hb2⟩, hc, hl, hs, hn, hw, hk, ha, hx, hh, hp⟩ := id hi
  obtain ⟨hD6, hw60, hD, hD', hwk, hwk', hwg, hwg', hpd, hln, her, hS, hL, hW, hK⟩ := id hc
  refine FC_signs_s (D := D) (w := w) (S := S) hh hD hD6 hs.2.1 hs.1 hwk hw60 (fun k s1 k0 => ?_) (fun s1 i0 b0 s0 N I q1 q2 q3 e1 e2 e3 e4 n1 n2 n3 n4 => ?_)
  · refine FM_signs_s (D := D) (w := w) (S := S) hh hD' hD6 hS hs.1 hwk' hw60 (fun k' s2 k0' => ?_) (fun s2 => ?_)
    · obtain rfl := dec6_f s1 s2
      exact ⟨rfl, Inv_refuse hi⟩
    · exact absurd (dec6_f s1 s2) k0
  · generalize eC : pI (cS h S w (i0 * 4 + b0) I (s0 * 40) N) 0 8 0 = Hc
    have fc : ∀ r, r ≠ 0 → r < 4 ∨ 8 < r → Hc.1 r = h.1 r := fun r r0 r1 => by rw [← eC, pI_r r0, cS_r r1]
    have s1' : ∀ k, sSt Hc D w S a b c e i n k → sSt h D w S a b c e i n k := fun k z => by
      simp only [sSt, sP5, sP6, fc 104 (by omega) (by omega), fc 105 (by omega) (by omega), fc 106 (by omega) (by omega)] at z
      exact z
    have hhc : iSheet Hc := iSheet_cg ⟨fc 54 (by omega) (by omega), fc 55 (by omega) (by omega), fc 56 (by omega) (by omega), fc 104 (by omega) (by omega), fc 105 (by omega) (by omega), fc 106 (by omega) (by omega)⟩ hh
    refine FM_signs_s (D := D) (w := w) (S := S) hhc (by rw [fc 57 (by omega) (by omega)]; exact hD') hD6 (by rw [fc 57 (by omega) (by omega)]; exact hS) hs.1 (by rw [fc 57 (by omega) (by omega)]; exact hwk') hw60 (fun k' s2 k0' => absurd (dec6_f s1 (s1' _ s2)).symm k0') (fun s2 i1 b1 t0 N' I' q1' q2' q3' e1' e2' e3' e4' n1' n2' n3' n4' => ?_)
    obtain rfl := nI_inj (e1.symm.trans e1') (by omega) (by omega)
    obtain rfl := nI_inj (e2.symm.trans e2') (by omega) (by omega)
    obtain rfl := nI_inj (e3.symm.trans e3') (by omega) (by omega)
    obtain rfl := nI_inj (e4.symm.trans e4') (by omega) (by omega)
    have cl : c.toNatClampNeg = s0 := by rw [e3, nI_clamp (by omega)]
    have p6 : sP6 h c i n := by
      unfold sSt dec6 at s1
      simp at s1
      exact s1.2.2.2.2.2
    have hv : ∀ j, j < N → inI (h.1 106 (s0 * 40 + I' + j)) (-99) 99 := fun j hj => by
      obtain ⟨y1, y2⟩ := n4' (by omega)
      have := p6 I' j y1 (by omega) (by rw [e4]; exact (ltN rfl rfl (by omega) (by omega)).mpr hj)
      rw [cl, Nat.mul_comm] at this
      exact this
    have h56 : ∀ j, j < N → h.1 56 (s0 * 40 + I' + j) = h.1 106 (s0 * 40 + I' + j) := fun j hj => by
      obtain ⟨y1, y2⟩ := n4' (by omega)
      exact hh.2 _ (by omega)
    have hII : cS h S w (i0 * 4 + b0) I (s0 * 40) N = cS h S w (i0 * 4 + b0) I' (s0 * 40) N := by
      rcases Nat.eq_zero_or_pos N with z | z
      · rw [z]; rfl
      · have := nI_inj ((n4 z).1.symm.trans (n4' z).1) (by have := (n4 z).2; omega) (by have := (n4' z).2; omega)
        rw [this]
    have row := iSigns_row e1 e2 (by omega) q2 hw60 n2 n3 h56 hv hs N (Nat.le_refl _)
    rw [hII] at eC
    have f106 : Hc.1 106 = (cS h S w (i0 * 4 + b0) I' (s0 * 40) N).1 106 := by rw [← eC, pI_r (by omega)]
    refine ⟨rfl, ?_⟩
    generalize eF : pI (mS Hc S w I' (s0 * 40) a b N) 57 0 0 = Hf
    have ff : ∀ r, r < 57 ∨ (57 < r ∧ r < 66) ∨ 70 < r → Hf.1 r = Hc.1 r := fun r hr => by rw [← eF, pI_r (by omega), mS_r hr]
    have fx : ∀ r, (8 < r ∧ r < 57) ∨ (57 < r ∧ r < 66) ∨ 70 < r → Hf.1 r = h.1 r := fun r hr => by rw [ff r (by omega), fc r (by omega) (by omega)]
    have fy : ∀ r, r = 1 ∨ r = 2 ∨ r = 3 → Hf.1 r = h.1 r := fun r hr => by rw [ff r (by omega), fc r (by omega) (by omega)]
    have f57 : ∀ j, j ≠ 0 → j ≠ 15 → Hf.1 57 j = h.1 57 j := fun j a b => by
      rw [← eF]; simp only [pI1, true_and]; rw [if_neg a, mS_57 b, fc 57 (by omega) (by omega)]
    have fr : ∀ r, r ≠ 57 → r ≠ 0 → Hf.1 r = (mS (cS h S w (i0 * 4 + b0) I' (s0 * 40) N) S w I' (s0 * 40) a b N).1 r := fun r a0 b0 => by
      rw [← eF, pI_r a0]
      exact mS_cg (by rw [← eC, pI_r b0]) f106 a0 N
    have old : ∀ r k, 65 < r → r < 71 → k < S → Hf.1 r k = h.1 r k := fun r k h1 h2 h3 => by
      rw [fr r (by omega) (by omega), mS_big (by omega) N (Or.inl h3), cS_r (by omega)]
    refine ⟨D, w, S + N, L, W, K, ⟨?_, bk, hb, by rw [ff 0 (by omega), ← eC]; simp [pI1, cS_r (r := 0), hb1], by rw [f57 54 (by omega) (by omega), hb2]⟩, ⟨hD6, hw60, by rw [fy 2 (by omega), hD], by rw [f57 1 (by omega) (by omega), hD'], by rw [fy 1 (by omega), hwk], by rw [f57 10 (by omega) (by omega), hwk'], by rw [fy 2 (by omega), f57 11 (by omega) (by omega), hwg], by rw [f57 11 (by omega) (by omega)]; exact hwg', by rw [fy 2 (by omega), f57 12 (by omega) (by omega), hpd], by rw [fy 2 (by omega), f57 13 (by omega) (by omega), hln], by rw [fy 2 (by omega), f57 14 (by omega) (by omega), her], ?_, by rw [f57 21 (by omega) (by omega), hL], by rw [f57 31 (by omega) (by omega), hW], by rw [f57 36 (by omega) (by omega), hK]⟩, iLand_cg ⟨?_, ?_, ?_, ?_, ?_, ?_, ?_, ?_⟩ hl, iSigns_cg ⟨?_, ?_, ?_, ?_, ?_⟩ (fun k _ => ⟨?_, ?_, ?_, ?_, ?_⟩) row, iLines_cg ⟨?_, ?_⟩ (fun k _ => ⟨?_, ?_, ?_, ?_, ?_, ?_, ?_, ?_, ?_⟩) hn, iWays_cg ⟨?_, ?_, ?_, ?_, ?_⟩ (fun k _ => ⟨?_, ?_, ?_, ?_⟩) hw, iWorks_cg ⟨?_, ?_, ?_, ?_⟩ (fun k _ => ⟨?_, ?_, ?_⟩) hk, iWas_cg ⟨?_, ?_⟩ ha, iAct_cg ⟨?_, ?_, ?_, ?_⟩ hx, iSheet_cg ⟨?_, ?_, ?_, ?_, ?_, ?_⟩ hh, iKept_cg (by omega) (Nat.le_refl _) (Nat.le_refl _) (Nat.le_refl _) ⟨⟨?_, ?_, ?_, ?_, ?_, ?_, ?_, ?_⟩, ⟨?_, ?_, ?_, ?_, ?_, ?_, ?_, ?_, ?_, ?_, ?_, ?_, ?_, ?_⟩, ?_, ?_, ?_, ?_, ?_, ?_, ?_, ?_, ?_, ?_, ?_⟩ (fun k kS => ⟨old _ k (by omega) (by omega) kS, old _ k (by omega) (by omega) kS, old _ k (by omega) (by omega) kS, old _ k (by omega) (by omega) kS, old _ k (by omega) (by omega) kS⟩) (fun k _ => ⟨?_, ?_, ?_, ?_, ?_, ?_, ?_, ?_⟩) (fun k _ => ⟨?_, ?_, ?_, ?_⟩) (fun k _ => ⟨?_, ?_, ?_⟩) hp⟩
    · rw [ff 0 (by omega), ← eC, ← eF]; simp [pI1]
    · rw [← eF]; simp only [pI1, true_and]; rw [if_neg (by omega)]; exact mS_15 (by rw [fc 57 (by omega) (by omega)]; exact hS) N
    all_goals first | exact fx _ (by omega) | exact congrFun (fx _ (by omega)) _ | exact fr _ (by omega) (by omega) | exact congrFun (fr _ (by omega) (by omega)) _ | exact fy _ (by omega) | exact congrFun (fy _ (by omega)) _ | exact f57 _ (by omega) (by omega) | skip
    all_goals (rw [ff 0 (by omega), ← eC]; simp [pI1, cS_r (r := 0)])
end PSG2
