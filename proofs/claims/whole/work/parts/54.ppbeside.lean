theorem iKept_cg2 {h h' : HH} {S L W K : Nat} (e0 : h'.1 0 6 = h.1 0 6 ∧ h'.1 57 53 = h.1 57 53) (f1 : ∀ r, 21 ≤ r → r ≤ 40 → h'.1 r = h.1 r) (f2 : ∀ r, 66 ≤ r → r ≤ 86 → h'.1 r = h.1 r) (f3 : ∀ r, 100 ≤ r → r ≤ 102 → h'.1 r = h.1 r) (f4 : ∀ k, 6 ≤ k → h'.1 92 k = h.1 92 k ∧ h'.1 93 k = h.1 93 k ∧ h'.1 96 k = h.1 96 k) (f5 : ∀ k, 18 ≤ k → h'.1 94 k = h.1 94 k ∧ h'.1 95 k = h.1 95 k ∧ h'.1 97 k = h.1 97 k ∧ h'.1 98 k = h.1 98 k) (f6 : ∀ k, 3 ≤ k → h'.1 99 k = h.1 99 k) (H : iKept h S L W K) : iKept h' S L W K := by
  obtain ⟨H1, H2⟩ := H
  refine ⟨by rw [e0.1, e0.2]; exact H1, ?_⟩
  rcases H2 with H2 | ⟨H2, D', w', S', L', W', K', q1, q2, q3, q4, q5, q6, q7, q8, q9, q10, q11, q12, q13, q14, q15, q16, q17, q18, q19, q20, q21, q22, q23, q24, q25⟩
  · exact Or.inl (by rw [e0.2]; exact H2)
  · refine Or.inr ⟨by rw [e0.2]; exact H2, D', w', S', L', W', K', q1, q2, q3, q4, q5, q6, ?_⟩
    rw [f1 22 (by omega) (by omega), f1 21 (by omega) (by omega), f3 100 (by omega) (by omega), f6 3 (by omega), f6 4 (by omega), f6 5 (by omega)]
    exact ⟨q7, q8, q9, q10, q11, q12, q13, q14, q15, q16, q17, q18, q19,
      iLand_mv (o := 22) (fun y _ => congrFun (f1 23 (by omega) (by omega)) y) (fun y _ => f4 (6 + y) (by omega)) (fun y _ => f5 (18 + y) (by omega)) q1 q20,
      iSigns_mv (o := 24) (congrFun (f1 24 (by omega) (by omega)) 4) (fun y _ => ⟨congrFun (f1 25 (by omega) (by omega)) y, congrFun (f1 26 (by omega) (by omega)) y, congrFun (f1 27 (by omega) (by omega)) y⟩) (fun y _ => congrFun (f1 28 (by omega) (by omega)) y) (fun r a b => f2 r (by omega) (by omega)) q21,
      iLines_mv (o := 29) (congrFun (f1 29 (by omega) (by omega)) 1) (fun y _ => congrFun (f1 30 (by omega) (by omega)) y) (fun r a b => f2 r (by omega) (by omega)) (fun y _ => congrFun (f3 101 (by omega) (by omega)) y) q22,
      iWays_mv (o := 31) (congrFun (f1 31 (by omega) (by omega)) 4) (fun y _ => ⟨congrFun (f1 32 (by omega) (by omega)) y, congrFun (f1 33 (by omega) (by omega)) y, congrFun (f1 34 (by omega) (by omega)) y, congrFun (f1 35 (by omega) (by omega)) y⟩) (fun r a b => f2 r (by omega) (by omega)) q23,
      iWorks_mv (o := 36) (congrFun (f1 36 (by omega) (by omega)) 3) (fun y _ => ⟨congrFun (f1 37 (by omega) (by omega)) y, congrFun (f1 38 (by omega) (by omega)) y, congrFun (f1 39 (by omega) (by omega)) y⟩) (fun r a b => f2 r (by omega) (by omega)) q24,
      iWas_mv (fun y _ => congrFun (f1 40 (by omega) (by omega)) y) (fun y _ => congrFun (f3 102 (by omega) (by omega)) y) q25⟩
section PBS
set_option maxHeartbeats 4000000 in
theorem pp_beside : PP_beside := by
  intro X h a b c hi
  obtain ⟨D, w, S, L, W, K, ⟨hm1, bk, hb, hb1, hb2⟩, hc, hl, hs, hn, hw, hk, ha, hx, hh, hp⟩ := id hi
  obtain ⟨hD6, hw60, hD, hD', hwk, hwk', hwg, hwg', hpd, hln, her, hS, hL, hW, hK⟩ := id hc
  have mD := hD'; have m6 := hD6; have h6 := hD6; have mL := hL; have hL := hn.2.1; have m12 := hn.1; have h12 := hn.1
  have kL : ∀ {x : Int32}, x = h.1 57 21 - 1 → (inI a (-1) x ↔ a = -1 ∨ isLt a L) := fun e => inI_m1L (by rw [e, mL]) (by omega)
  have wgN : isN (h.1 2 2) 0 99 := by rw [hwg]; exact hwg'
  have core : (a = -1 ∨ isLt a L) → inI b 1 20 → inI c 0 4 → ∀ (y : Int32), y = mn b (60 - h.1 1 6) → E X 58 St_dream 0 [.ref 1, .ref 41, .int a, .int y, U0, U0, U0] [] h (fun _ h' => E X 59 FC_beside 72 [.ref 0, .int a, .int b, .int c, .int 1] [] h' (fun r1 h1 => E X 59 FM_beside 0 [.ref 57, .int a, .int b, .int c, U0, U0, U0, U0] [] h1 (fun r2 h2 => r1 = r2 ∧ Inv h2))) := by
    intro hA hB hC y hy
    obtain ⟨n0, n1, n2, rfl⟩ := (isN_of (l := 1) (m := 20) rfl rfl (by omega) (by omega)).mp hB
    obtain ⟨j, -, j4, rfl⟩ := (isN_of (l := 0) (m := 4) rfl rfl (by omega) (by omega)).mp hC
    have ey : y = nI (min n0 (60 - w)) := by
      rw [hy, hwk, show (60 : Int32) = nI 60 from rfl, pk_sub hw60, mn_nI (by omega) (by omega)]
    refine St_dream_c (w := w) (L := L) (S := S) (D := D) (m := min n0 (60 - w)) (wg := h.1 2 2) hs hn (by omega) hD hD6 rfl wgN hwk hA ey (fun d hd => iLand_ok (s := (h.1 3, 0, 0, 0)) rfl hl hD6 hd) (fun H fr cp => ?_)
    obtain ⟨c1, c2, c3, c4, c5, c6⟩ := cp
    have cc : ∀ y, y < 90 → H.1 42 y = h.1 3 y := c1
    have c4' : H.1 41 3 = h.1 2 3 := c4
    have c5' : H.1 41 4 = h.1 2 4 := c5
    have c6' : H.1 41 5 = h.1 2 5 := c6
    generalize es : ((H.1 42, H.1 41 3, H.1 41 4, H.1 41 5) : EC) = s
    have es1 : s.1 = H.1 42 := by rw [← es]
    have es2 : s.2.1 = h.1 2 3 ∧ s.2.2.1 = h.1 2 4 ∧ s.2.2.2 = h.1 2 5 := by rw [← es]; exact ⟨c4', c5', c6'⟩
    generalize eo : (fun k => ob h S L (nI w) a (w + k) (nI w)) = o
    generalize eT : (dmS o (h.1 2 2) s D (min n0 (60 - w))) = T
    have hsum : smC T.1.1 9 D = smC (h.1 3) 9 D + T.2 := by
      rw [← eT, dmS_sum, es1]
      rw [smC_cg (f := H.1 42) (g := h.1 3) D (fun d c hd hc => cc _ (by omega))]
    have hded : smC s.1 12 D = smC (h.1 3) 12 D := by rw [es1]; exact smC_cg D (fun d c hd hc => cc _ (by omega))
    have fD : ∀ r, r < 41 ∨ 42 < r → (sC H 41 T.1).1 r = h.1 r := fun r hr => by rw [sC_row (by omega) (by omega), fr r hr]
    refine (FC_beside_72 (FC_beside_73 (FC_beside_76 (FC_beside_77 (Nat.le_of_ble_eq_true rfl) ?_))))
    refine La_sum_c isLa41 ((sC_low (by omega)).trans (c2.trans hD)) hD6 ?_
    refine (FC_beside_80 (FC_beside_81 (FC_beside_84 (FC_beside_87 (FC_beside_88 (Nat.le_of_ble_eq_true rfl) ?_)))))
    refine La_sum_c isLa2 ((congrFun (fD 2 (by omega)) 1).trans hD) hD6 ?_
    refine (FC_beside_91 (FC_beside_92 ?_))
    rw [sC_3, sC_4, sC_5, fD 2 (by omega), fD (2 + 1) (by omega), show (sC H 41 T.1).1 (41 + 1) = T.1.1 from funext (fun y => sC_r)]
    generalize eC : sC H 41 T.1 = Hc at fD
    refine (FM_beside_0 (FM_beside_1 (FM_beside_2 (FM_beside_3 (FM_beside_6 (FM_beside_7 (FM_beside_8 (Nat.le_of_ble_eq_true rfl) (FM_in_c (fun c8 => (FM_beside_11 (fun z => absurd z (by decide)) (fun _ => (FM_beside_14 (FM_beside_15 (FM_beside_16 (FM_beside_18 (Nat.le_of_ble_eq_true rfl) (FM_in_c (fun c18 => (FM_beside_21 (fun z => absurd z (by decide)) (fun _ => (FM_beside_24 (FM_beside_25 (FM_beside_26 (FM_beside_27 (Nat.le_of_ble_eq_true rfl) (FM_in_c (fun c27 => (FM_beside_30 (fun _ => (FM_beside_35 (FM_beside_36 (FM_beside_37 (Nat.le_of_ble_eq_true rfl) ?_)))) (fun z => absurd z (by decide)))) (fun c27 => (FM_beside_30 (fun z => absurd z (by decide)) (fun _ => (FM_beside_33 (FM_beside_34 ?_))))))))))))) (fun c18 => (FM_beside_21 (fun _ => (FM_beside_33 (FM_beside_34 ?_))) (fun z => absurd z (by decide)))))))))))) (fun c8 => (FM_beside_11 (fun _ => (FM_beside_33 (FM_beside_34 ?_))) (fun z => absurd z (by decide))))))))))))
    · refine FM_keep_c (w := 0) (by omega) rfl (fun Hk kp => ?_)
      obtain ⟨kf, kr1, kr2, kr3, kr4, kr5, kr6⟩ := kp
      have h57 : Hk.1 57 = h.1 57 := by rw [kf 57 (by omega), fD 57 (by omega)]
      have hkr : ∀ r, r < 41 ∨ (42 < r ∧ r < 92) ∨ 99 < r → Hk.1 r = h.1 r := fun r hr => by rw [kf r (by omega), fD r (by omega)]
      have hself : sM Hk s = Hk := by
        have hs2 : sM Hk (h.1 3, h.1 2 3, h.1 2 4, h.1 2 5) = Hk := iLand_self hl (fun r r1 r2 => hkr r (by omega)) (by rw [h57]; exact hpd.symm) (by rw [h57]; exact hln.symm) (by rw [h57]; exact her.symm)
        refine (?_ : sM Hk s = sM Hk (h.1 3, h.1 2 3, h.1 2 4, h.1 2 5)).trans hs2
        refine Prod.ext ?_ rfl
        funext x y
        simp only [sM]
        cases e : ixM x y with
        | none => simp only [es2.1, es2.2.1, es2.2.2]
        | some i =>
          have i90 : i < 90 := by
            unfold ixM at e
            repeat' split at e
            all_goals simp only [Option.some.injEq, reduceCtorEq] at e
            all_goals omega
          simp only [es1]
          exact cc i i90
      have hs1 : iSigns h 4 S w := hs
      have hkS : ∀ d, d < D → eOk s d := fun d hd => by
        obtain ⟨a1, a2, a3⟩ := iLand_ok (s := (h.1 3, 0, 0, 0)) rfl hl hD6 hd
        refine ⟨?_, ?_, fun c hc => ⟨?_, ?_⟩⟩
        · rw [es1, cc _ (by omega)]; exact a1
        · rw [es1, cc _ (by omega)]; exact a2
        · rw [es1, cc _ (by omega)]; exact (a3 c hc).1
        · rw [es1, cc _ (by omega)]; exact (a3 c hc).2
      have fin : ∀ Hf, lyP (sM Hk T.1) Hf 0 → Inv Hf := by
        intro Hf lp
        obtain ⟨lf, lr1, lr2, lr3, lr4⟩ := lp
        have g : ∀ r, r < 41 ∨ (42 < r ∧ r < 57) ∨ (64 < r ∧ r < 92) ∨ 99 < r → Hf.1 r = h.1 r := fun r hr => by rw [lf r (by omega), sM_row (by omega), hkr r (by omega)]
        have gk : ∀ r, 92 ≤ r → r ≤ 99 → Hf.1 r = Hk.1 r := fun r a b => by rw [lf r (by omega), sM_row (by omega)]
        have gm : ∀ r, 92 ≤ r → r ≤ 99 → (sM Hk T.1).1 r = Hk.1 r := fun r a b => sM_row (by omega)
        have c58 : ∀ r, 58 ≤ r → r ≤ 64 → Hc.1 r = h.1 r := fun r a b => fD r (by omega)
        have k0 : Hk.1 99 0 = Hc.1 57 12 ∧ Hk.1 99 1 = Hc.1 57 13 ∧ Hk.1 99 2 = Hc.1 57 14 := kr5
        have l0 : Hf.1 57 12 = (sM Hk T.1).1 99 0 ∧ Hf.1 57 13 = (sM Hk T.1).1 99 1 ∧ Hf.1 57 14 = (sM Hk T.1).1 99 2 := lr3
        have g57 : ∀ j, Hf.1 57 j = h.1 57 j := fun j => by
          by_cases z : j < 12 ∨ 14 < j
          · rw [lr4 j z, sM_57 z, h57]
          · have : j = 12 ∨ j = 13 ∨ j = 14 := by omega
            rcases this with rfl | rfl | rfl
            · rw [l0.1, gm 99 (by omega) (by omega), k0.1, fD 57 (by omega)]
            · rw [l0.2.1, gm 99 (by omega) (by omega), k0.2.1, fD 57 (by omega)]
            · rw [l0.2.2, gm 99 (by omega) (by omega), k0.2.2, fD 57 (by omega)]
        refine ⟨D, w, S, L, W, K, ⟨?_, bk, hb, by rw [g 0 (by omega), hb1], by rw [g57, hb2]⟩, iCnt_cg ⟨?_, ?_, ?_, ?_, ?_, ?_, ?_, ?_, ?_, ?_, ?_, ?_, ?_, ?_, ?_, ?_⟩ hc, ?_, iSigns_cg ⟨?_, ?_, ?_, ?_, ?_⟩ (fun k _ => ⟨?_, ?_, ?_, ?_, ?_⟩) hs, iLines_cg ⟨?_, ?_⟩ (fun k _ => ⟨?_, ?_, ?_, ?_, ?_, ?_, ?_, ?_, ?_⟩) hn, iWays_cg ⟨?_, ?_, ?_, ?_, ?_⟩ (fun k _ => ⟨?_, ?_, ?_, ?_⟩) hw, iWorks_cg ⟨?_, ?_, ?_, ?_⟩ (fun k _ => ⟨?_, ?_, ?_⟩) hk, iWas_cg ⟨?_, ?_⟩ ha, iAct_cg ⟨?_, ?_, ?_, ?_⟩ hx, iSheet_cg ⟨?_, ?_, ?_, ?_, ?_, ?_⟩ hh, ?_⟩
        · rw [g 0 (by omega), g57]; exact hm1
        all_goals first | exact g _ (by omega) | exact congrFun (g _ (by omega)) _ | exact g57 _ | skip
        · refine iLand_mv (o := 2) (S := 58) (P := 59) (E := 60) (C := 61) (B := 62) (L := 63) (X := 64) (u := 0) (v := 0) (fun y hy => congrFun (g 3 (by omega)) y) (fun y hy => ?_) (fun y hy => ?_) hD6 hl
          · obtain ⟨a1, a2, a3⟩ := lr1 y hy
            obtain ⟨b1, b2, b3⟩ := kr1 y hy
            rw [Nat.zero_add, a1, a2, a3, gm 92 (by omega) (by omega), gm 93 (by omega) (by omega), gm 96 (by omega) (by omega), b1, b2, b3, c58 58 (by omega) (by omega), c58 59 (by omega) (by omega), c58 62 (by omega) (by omega)]
            exact ⟨rfl, rfl, rfl⟩
          · obtain ⟨a1, a2, a3, a4⟩ := lr2 y hy
            obtain ⟨b1, b2, b3, b4⟩ := kr3 y hy
            rw [Nat.zero_add, a1, a2, a3, a4, gm 94 (by omega) (by omega), gm 95 (by omega) (by omega), gm 97 (by omega) (by omega), gm 98 (by omega) (by omega), b1, b2, b3, b4, c58 60 (by omega) (by omega), c58 61 (by omega) (by omega), c58 63 (by omega) (by omega), c58 64 (by omega) (by omega)]
            exact ⟨rfl, rfl, rfl, rfl⟩
        · refine iKept_cg2 ⟨congrFun (g 0 (by omega)) 6, g57 53⟩ (fun r a b => g r (by omega)) (fun r a b => g r (by omega)) (fun r a b => g r (by omega)) (fun k hk => ?_) (fun k hk => ?_) (fun k hk => ?_) hp
          · rw [gk 92 (by omega) (by omega), gk 93 (by omega) (by omega), gk 96 (by omega) (by omega)]
            obtain ⟨a1, a2, a3⟩ := kr2 k (by omega)
            rw [a1, a2, a3, fD 92 (by omega), fD 93 (by omega), fD 96 (by omega)]
            exact ⟨rfl, rfl, rfl⟩
          · rw [gk 94 (by omega) (by omega), gk 95 (by omega) (by omega), gk 97 (by omega) (by omega), gk 98 (by omega) (by omega)]
            obtain ⟨a1, a2, a3, a4⟩ := kr4 k (by omega)
            rw [a1, a2, a3, a4, fD 94 (by omega), fD 95 (by omega), fD 97 (by omega), fD 98 (by omega)]
            exact ⟨rfl, rfl, rfl, rfl⟩
          · rw [gk 99 (by omega) (by omega), kr6 k (by omega), fD 99 (by omega)]
      have loop : ∀ (Q : Int32 → HH → Prop) (a2 a3 : Int32), (∀ a7 : Value, E X 59 FM_beside 172 [.ref 57, .int a, .int (nI n0), .int a2, .int a3, .int T.2, .int (nI (min n0 (60 - w))), a7] [] (sM Hk T.1) Q) → E X 59 FM_beside 97 [.ref 57, .int a, .int (nI n0), .int a2, .int a3, .int 0, .int 0, U0] [] (sM Hk s) Q := by
        intro Q a2 a3 K
        have q := FM_beside_o (X := X) (d := 54) (Q := Q) (g := a) (a2 := a2) (a3 := a3) (n0 := n0) (h := h) (H := Hk) (s := s) rfl hw60 n2 hs hn hS mL hwk' mD hD6 hwg.symm wgN (fun r hr => hkr r (by omega)) h57 hkS (fun a7 => by rw [eo, eT]; exact K a7) (min n0 (60 - w)) 0 U0 (by omega)
        exact q
      rw [← hself]
      have mD' : (sM Hk s).1 57 1 = nI D := by rw [sM_57 (by omega), h57]; exact mD
      have mD2 : (sM Hk T.1).1 57 1 = nI D := by rw [sM_57 (by omega), h57]; exact mD
      match j, j4 with
      | 0, _ =>
        refine (FM_beside_40 (FM_beside_41 (FM_beside_42 (fun _ => (FM_beside_52 (FM_beside_53 (FM_beside_54 (fun _ => (FM_beside_64 (FM_beside_65 (FM_beside_66 (fun _ => (FM_beside_76 (FM_beside_77 (FM_beside_78 (fun _ => (FM_beside_88 (FM_beside_89 (FM_beside_91 (FM_beside_92 (FM_beside_94 (FM_beside_95 ?_))))))) (fun z => absurd z (by decide)))))) (fun z => absurd z (by decide)))))) (fun z => absurd z (by decide)))))) (fun z => absurd z (by decide)))))
        refine loop _ _ _ (fun a7 => ?_)
        refine (FM_beside_172 (FM_beside_173 (fun z => absurd z (by decide)) (fun _ => (FM_beside_176 (FM_beside_178 (FM_beside_221 (FM_beside_223 (FM_beside_224 (FM_beside_225 (Nat.le_of_ble_eq_true rfl) ?_)))))))))
        refine FM_lay_c (w := 0) (by omega) rfl (fun Hf lp => ?_)
        refine (FM_beside_228 (FM_beside_230 (FM_beside_232 (FM_beside_233 ?_))))
        refine ⟨?_, fin Hf lp⟩
        show sumE _ _ _ _ D 0 - sumE _ _ _ _ D 0 = T.2 - 0
        rw [sumE, sumE, if_pos rfl, if_pos rfl, hsum, Int32.sub_zero, Int32.add_comm, Int32.add_sub_cancel]
      | 1, _ =>
        refine (FM_beside_40 (FM_beside_41 (FM_beside_42 (fun z => absurd z (by decide)) (fun _ => (FM_beside_45 (FM_beside_46 (Nat.le_of_ble_eq_true rfl) ?_))))))
        refine FM_allDead_s mD' hD6 ?_
        refine (FM_beside_49 (FM_beside_89 (FM_beside_91 (FM_beside_92 (FM_beside_94 (FM_beside_95 ?_))))))
        refine loop _ _ _ (fun a7 => ?_)
        refine (FM_beside_172 (FM_beside_173 (fun _ => (FM_beside_181 (FM_beside_182 (FM_beside_183 (fun z => absurd z (by decide)) (fun _ => (FM_beside_186 (FM_beside_187 (Nat.le_of_ble_eq_true rfl) ?_))))))) (fun z => absurd z (by decide))))
        refine FM_allDead_s mD2 hD6 ?_
        refine (FM_beside_190 (FM_beside_221 (FM_beside_223 (FM_beside_224 (FM_beside_225 (Nat.le_of_ble_eq_true rfl) ?_)))))
        refine FM_lay_c (w := 0) (by omega) rfl (fun Hf lp => ?_)
        refine (FM_beside_228 (FM_beside_230 (FM_beside_232 (FM_beside_233 ?_))))
        refine ⟨?_, fin Hf lp⟩
        show sumE _ _ _ _ D 1 - sumE _ _ _ _ D 1 = _
        simp [sumE, hded]
      | 2, _ =>
        refine (FM_beside_40 (FM_beside_41 (FM_beside_42 (fun _ => (FM_beside_52 (FM_beside_53 (FM_beside_54 (fun z => absurd z (by decide)) (fun _ => (FM_beside_57 (FM_beside_58 (FM_beside_61 (FM_beside_89 (FM_beside_91 (FM_beside_92 (FM_beside_94 (FM_beside_95 ?_))))))))))))) (fun z => absurd z (by decide)))))
        refine loop _ _ _ (fun a7 => ?_)
        refine (FM_beside_172 (FM_beside_173 (fun _ => (FM_beside_181 (FM_beside_182 (FM_beside_183 (fun _ => (FM_beside_193 (FM_beside_194 (FM_beside_195 (fun z => absurd z (by decide)) (fun _ => (FM_beside_198 (FM_beside_199 (FM_beside_202 (FM_beside_221 (FM_beside_223 (FM_beside_224 (FM_beside_225 (Nat.le_of_ble_eq_true rfl) ?_)))))))))))) (fun z => absurd z (by decide)))))) (fun z => absurd z (by decide))))
        refine FM_lay_c (w := 0) (by omega) rfl (fun Hf lp => ?_)
        refine (FM_beside_228 (FM_beside_230 (FM_beside_232 (FM_beside_233 ?_))))
        refine ⟨?_, fin Hf lp⟩
        show sumE _ _ _ _ D 2 - sumE _ _ _ _ D 2 = _
        simp [sumE, sM_12, sM_13, sM_14, es2.1, es2.2.1, es2.2.2]
      | 3, _ =>
        refine (FM_beside_40 (FM_beside_41 (FM_beside_42 (fun _ => (FM_beside_52 (FM_beside_53 (FM_beside_54 (fun _ => (FM_beside_64 (FM_beside_65 (FM_beside_66 (fun z => absurd z (by decide)) (fun _ => (FM_beside_69 (FM_beside_70 (FM_beside_73 (FM_beside_89 (FM_beside_91 (FM_beside_92 (FM_beside_94 (FM_beside_95 ?_))))))))))))) (fun z => absurd z (by decide)))))) (fun z => absurd z (by decide)))))
        refine loop _ _ _ (fun a7 => ?_)
        refine (FM_beside_172 (FM_beside_173 (fun _ => (FM_beside_181 (FM_beside_182 (FM_beside_183 (fun _ => (FM_beside_193 (FM_beside_194 (FM_beside_195 (fun _ => (FM_beside_205 (FM_beside_206 (FM_beside_207 (fun z => absurd z (by decide)) (fun _ => (FM_beside_210 (FM_beside_211 (FM_beside_214 (FM_beside_221 (FM_beside_223 (FM_beside_224 (FM_beside_225 (Nat.le_of_ble_eq_true rfl) ?_)))))))))))) (fun z => absurd z (by decide)))))) (fun z => absurd z (by decide)))))) (fun z => absurd z (by decide))))
        refine FM_lay_c (w := 0) (by omega) rfl (fun Hf lp => ?_)
        refine (FM_beside_228 (FM_beside_230 (FM_beside_232 (FM_beside_233 ?_))))
        refine ⟨?_, fin Hf lp⟩
        show sumE _ _ _ _ D 3 - sumE _ _ _ _ D 3 = _
        simp [sumE, sM_12, sM_13, sM_14, es2.1, es2.2.1, es2.2.2]
      | 4, _ =>
        refine (FM_beside_40 (FM_beside_41 (FM_beside_42 (fun _ => (FM_beside_52 (FM_beside_53 (FM_beside_54 (fun _ => (FM_beside_64 (FM_beside_65 (FM_beside_66 (fun _ => (FM_beside_76 (FM_beside_77 (FM_beside_78 (fun z => absurd z (by decide)) (fun _ => (FM_beside_81 (FM_beside_82 (FM_beside_85 (FM_beside_89 (FM_beside_91 (FM_beside_92 (FM_beside_94 (FM_beside_95 ?_))))))))))))) (fun z => absurd z (by decide)))))) (fun z => absurd z (by decide)))))) (fun z => absurd z (by decide)))))
        refine loop _ _ _ (fun a7 => ?_)
        refine (FM_beside_172 (FM_beside_173 (fun _ => (FM_beside_181 (FM_beside_182 (FM_beside_183 (fun _ => (FM_beside_193 (FM_beside_194 (FM_beside_195 (fun _ => (FM_beside_205 (FM_beside_206 (FM_beside_207 (fun _ => (FM_beside_217 (FM_beside_218 (FM_beside_221 (FM_beside_223 (FM_beside_224 (FM_beside_225 (Nat.le_of_ble_eq_true rfl) ?_))))))) (fun z => absurd z (by decide)))))) (fun z => absurd z (by decide)))))) (fun z => absurd z (by decide)))))) (fun z => absurd z (by decide))))
        refine FM_lay_c (w := 0) (by omega) rfl (fun Hf lp => ?_)
        refine (FM_beside_228 (FM_beside_230 (FM_beside_232 (FM_beside_233 ?_))))
        refine ⟨?_, fin Hf lp⟩
        show sumE _ _ _ _ D 4 - sumE _ _ _ _ D 4 = _
        simp [sumE, sM_12, sM_13, sM_14, es2.1, es2.2.1, es2.2.2]
      | _ + 5, z => exact absurd z (by omega)
    · exact absurd hC c27
    · exact absurd hB c18
    · exact absurd ((kL (by rw [fD 57 (by omega)])).mpr hA) c8
  have bad : ¬ ((a = -1 ∨ isLt a L) ∧ inI b 1 20 ∧ inI c 0 4) → E X 59 FM_beside 0 [.ref 57, .int a, .int b, .int c, U0, U0, U0, U0] [] h (fun r2 h2 => -1 = r2 ∧ Inv h2) := by
    intro nA
    refine (FM_beside_0 (FM_beside_1 (FM_beside_2 (FM_beside_3 (FM_beside_6 (FM_beside_7 (FM_beside_8 (Nat.le_of_ble_eq_true rfl) (FM_in_c (fun c8 => (FM_beside_11 (fun z => absurd z (by decide)) (fun _ => (FM_beside_14 (FM_beside_15 (FM_beside_16 (FM_beside_18 (Nat.le_of_ble_eq_true rfl) (FM_in_c (fun c18 => (FM_beside_21 (fun z => absurd z (by decide)) (fun _ => (FM_beside_24 (FM_beside_25 (FM_beside_26 (FM_beside_27 (Nat.le_of_ble_eq_true rfl) (FM_in_c (fun c27 => (FM_beside_30 (fun _ => (FM_beside_35 (FM_beside_36 (FM_beside_37 (Nat.le_of_ble_eq_true rfl) ?_)))) (fun z => absurd z (by decide)))) (fun c27 => (FM_beside_30 (fun z => absurd z (by decide)) (fun _ => (FM_beside_33 (FM_beside_34 ?_))))))))))))) (fun c18 => (FM_beside_21 (fun _ => (FM_beside_33 (FM_beside_34 ?_))) (fun z => absurd z (by decide)))))))))))) (fun c8 => (FM_beside_11 (fun _ => (FM_beside_33 (FM_beside_34 ?_))) (fun z => absurd z (by decide))))))))))))
    · exact absurd ⟨(kL rfl).mp c8, c18, c27⟩ nA
    all_goals exact ⟨rfl, hi⟩
  refine (FC_beside_0 (FC_beside_1 (FC_beside_2 (fun c2 => (FC_beside_13 (FC_beside_14 (FC_beside_18 (FC_beside_20 (FC_beside_22 (fun z => absurd z (by decide)) (fun _ => (FC_beside_25 (FC_beside_26 (FC_beside_27 (FC_beside_29 (Nat.le_of_ble_eq_true rfl) (FC_within_c (fun c29 => (FC_beside_32 (fun z => absurd z (by decide)) (fun _ => (FC_beside_35 (FC_beside_36 (FC_beside_37 (FC_beside_38 (Nat.le_of_ble_eq_true rfl) (FC_within_c (fun c38 => (FC_beside_41 (fun _ => (FC_beside_46 (FC_beside_47 (FC_beside_50 (FC_beside_51 (FC_beside_54 (FC_beside_55 (FC_beside_56 (FC_beside_58 (FC_beside_59 (FC_beside_62 (FC_beside_65 (FC_beside_66 (Nat.le_of_ble_eq_true rfl) (JM_min_c (FC_beside_69 (Nat.le_of_ble_eq_true rfl) ?_))))))))))))))) (fun z => absurd z (by decide)))) (fun c38 => (FC_beside_41 (fun z => absurd z (by decide)) (fun _ => (FC_beside_44 (FC_beside_45 ?_))))))))))))) (fun c29 => (FC_beside_32 (fun _ => (FC_beside_44 (FC_beside_45 ?_))) (fun z => absurd z (by decide)))))))))))))))) (fun c2 => (FC_beside_5 (FC_beside_6 (FC_beside_7 (Nat.le_of_ble_eq_true rfl) (FC_isLine_n hL h12 (fun j7 u7 e7 => (FC_beside_10 (fun z => absurd z (by decide)) (fun _ => (FC_beside_13 (FC_beside_14 (FC_beside_18 (FC_beside_20 (FC_beside_22 (fun z => absurd z (by decide)) (fun _ => (FC_beside_25 (FC_beside_26 (FC_beside_27 (FC_beside_29 (Nat.le_of_ble_eq_true rfl) (FC_within_c (fun c29 => (FC_beside_32 (fun z => absurd z (by decide)) (fun _ => (FC_beside_35 (FC_beside_36 (FC_beside_37 (FC_beside_38 (Nat.le_of_ble_eq_true rfl) (FC_within_c (fun c38 => (FC_beside_41 (fun _ => (FC_beside_46 (FC_beside_47 (FC_beside_50 (FC_beside_51 (FC_beside_54 (FC_beside_55 (FC_beside_56 (FC_beside_58 (FC_beside_59 (FC_beside_62 (FC_beside_65 (FC_beside_66 (Nat.le_of_ble_eq_true rfl) (JM_min_c (FC_beside_69 (Nat.le_of_ble_eq_true rfl) ?_))))))))))))))) (fun z => absurd z (by decide)))) (fun c38 => (FC_beside_41 (fun z => absurd z (by decide)) (fun _ => (FC_beside_44 (FC_beside_45 ?_))))))))))))) (fun c29 => (FC_beside_32 (fun _ => (FC_beside_44 (FC_beside_45 ?_))) (fun z => absurd z (by decide)))))))))))))))))) (fun n7 => (FC_beside_10 (fun _ => (FC_beside_17 (FC_beside_18 (FC_beside_20 (FC_beside_22 (fun _ => (FC_beside_44 (FC_beside_45 ?_))) (fun z => absurd z (by decide))))))) (fun z => absurd z (by decide))))))))))))
  · exact core (Or.inl c2) c29 c38 _ rfl
  · exact bad (fun z => c38 z.2.2)
  · exact bad (fun z => c29 z.2.1)
  · exact core (Or.inr ⟨j7, u7, e7⟩) c29 c38 _ rfl
  · exact bad (fun z => c38 z.2.2)
  · exact bad (fun z => c29 z.2.1)
  · exact bad (fun z => z.1.elim c2 n7)
end PBS
