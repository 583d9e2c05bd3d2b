section CE
variable {X : SX} {d : Nat} {h : HH} {Q : Int32 → HH → Prop}
theorem Sh_isMissing_c {s : Nat} {x : Int32} (e1 : x = nI s) (hs : s < 4) (t : h.1 54 s = -1 → Q 1 h) (f : ¬ h.1 54 s = -1 → Q 0 h) : E X d Sh_isMissing 0 [.ref 53, .int x] [] h Q := by
  refine (Sh_isMissing_0 (Sh_isMissing_1 (Sh_isMissing_4 (Sh_isMissing_5n (by first | assumption | exact rfl) (by omega) (Sh_isMissing_6 (Sh_isMissing_7 (fun c7 => (Sh_isMissing_14 (Sh_isMissing_15 rfl ?_))) (fun c7 => (Sh_isMissing_10 (Sh_isMissing_11 (Sh_isMissing_15 rfl ?_))))))))))
  · exact f c7
  · exact t c7
theorem Sh_spans_c {s : Nat} {x i n : Int32} (e1 : x = nI s) (hs : s < 4) (t : inI i 0 (h.1 55 s - n) → Q 1 h) (f : ¬ inI i 0 (h.1 55 s - n) → Q 0 h) : E X d Sh_spans 0 [.ref 53, .int x, .int i, .int n] [] h Q := by
  refine (Sh_spans_0 (Sh_spans_1 (fun c1 => (Sh_spans_20 (Sh_spans_21 rfl ?_))) (fun c1 => (Sh_spans_4 (Sh_spans_5 (Sh_spans_6 (Sh_spans_9 (Sh_spans_10n (by first | assumption | exact rfl) (by omega) (Sh_spans_11 (Sh_spans_12 (Sh_spans_13 (fun c13 => (Sh_spans_20 (Sh_spans_21 rfl ?_))) (fun c13 => (Sh_spans_16 (Sh_spans_17 (Sh_spans_21 rfl ?_)))))))))))))))
  · exact f (fun z => Int32.not_le.mpr c1 z.1)
  · exact f (fun z => Int32.not_le.mpr c13 z.2)
  · exact t ⟨Int32.not_lt.mp c1, Int32.not_lt.mp c13⟩
theorem iSheet_cell {h' : HH} {j i : Nat} {v : Int32} (e1 : h'.1 54 = h.1 54 ∧ h'.1 55 = h.1 55 ∧ h'.1 104 = h.1 104 ∧ h'.1 105 = h.1 105) (e5 : ∀ k, h'.1 56 k = if k = j * 40 + i then v else h.1 56 k) (e6 : ∀ k, h'.1 106 k = if k = 40 * j + i then v else h.1 106 k) (H : iSheet h) : iSheet h' := by
  obtain ⟨r1, r2, r3, r4⟩ := e1
  refine ⟨fun s hs => by rw [r1, r2, r3, r4]; exact H.1 s hs, fun k hk => ?_⟩
  rw [e5, e6]
  by_cases q : k = j * 40 + i
  · rw [if_pos q, if_pos (by omega)]
  · rw [if_neg q, if_neg (by omega)]; exact H.2 k hk
theorem out3 {P : Prop} {s : Int32} (g : ¬ isN s 0 3) (y : inI s 0 3) : P := absurd ((isN_of (a := 0) (b := 3) (l := 0) (m := 3) rfl rfl (by omega) (by omega)).mp y) g
theorem in3 {s : Int32} (g : isN s 0 3) : inI s 0 3 := (isN_of (a := 0) (b := 3) (l := 0) (m := 3) rfl rfl (by omega) (by omega)).mpr g
theorem FC_cell_f {s i v : Int32} (g : ¬ isN s 0 3) (t : Q (-1) (pI h 0 8 1)) : E X (d + 3) FC_cell 0 [.ref 0, .int s, .int i, .int v] [] h Q := by
  refine (FC_cell_0 (FC_cell_1 (Nat.le_of_ble_eq_true rfl) (FC_isSheet_n (fun j1 u1 e1 => (FC_cell_4 (fun z => absurd z (by decide)) (fun _ => ?_))) (fun n1 => (FC_cell_4 (fun _ => (FC_cell_20 (FC_cell_21 (FC_cell_22 (Nat.le_of_ble_eq_true rfl) (FC_refuse_c (FC_cell_25 ?_)))))) (fun z => absurd z (by decide)))))))
  · exact absurd ⟨j1, Nat.zero_le _, u1, e1⟩ g
  · exact t
theorem FM_cell_f {s i v : Int32} (g : ¬ isN s 0 3) (t : Q (-1) (pI h 57 0 1)) : E X (d + 3) FM_cell 0 [.ref 57, .int s, .int i, .int v] [] h Q := by
  refine (FM_cell_0 (FM_cell_1 (FM_cell_2 (FM_cell_3 (Nat.le_of_ble_eq_true rfl) (FM_in_c (fun c3 => (FM_cell_6 (fun z => absurd z (by decide)) (fun _ => ?_))) (fun c3 => (FM_cell_6 (fun _ => (FM_cell_22 (FM_cell_23 (FM_cell_24 (Nat.le_of_ble_eq_true rfl) (FM_refused_c (FM_cell_27 ?_)))))) (fun z => absurd z (by decide)))))))))
  · exact out3 g c3
  · exact t
theorem FC_cell_s {i v : Int32} {j z : Nat} (hj : j < 4) (ez : h.1 55 j = nI z) (hz : z ≤ 40) (t1 : ¬ inI v (-1000) 1000 → Q (-1) (pI h 0 8 1)) (t2 : inI v (-1000) 1000 → h.1 54 j = -1 → Q (-1) (pI h 0 8 10)) (t3 : inI v (-1000) 1000 → ¬ h.1 54 j = -1 → ¬ isLt i z → Q (-1) (pI h 0 8 12)) (t4 : ∀ k, k < z → i = nI k → inI v (-1000) 1000 → ¬ h.1 54 j = -1 → Q 1 (pI (pI h 56 (j * 40 + k) (putv (h.1 54 j) v)) 0 8 0)) : E X (d + 3) FC_cell 0 [.ref 0, .int (nI j), .int i, .int v] [] h Q := by
  refine (FC_cell_0 (FC_cell_1 (Nat.le_of_ble_eq_true rfl) (FC_isSheet_n (fun j1 u1 e1 => (FC_cell_4 (fun z => absurd z (by decide)) (fun _ => (FC_cell_7 (FC_cell_8 (FC_cell_11 (FC_cell_14 (Nat.le_of_ble_eq_true rfl) (FC_within_c (fun c14 => (FC_cell_17 (fun _ => (FC_cell_26 (FC_cell_27 (FC_cell_30 (FC_cell_31 (Nat.le_of_ble_eq_true rfl) (Sh_isMissing_c (by first | assumption | exact rfl) (by omega) (fun c31 => (FC_cell_34 (fun z => absurd z (by decide)) (fun _ => (FC_cell_37 (FC_cell_38 (FC_cell_40 (Nat.le_of_ble_eq_true rfl) (FC_refuse_c (FC_cell_43 ?_)))))))) (fun c31 => (FC_cell_34 (fun _ => (FC_cell_44 (FC_cell_45 (FC_cell_48 (FC_cell_49 (FC_cell_50 (FC_cell_51 (Nat.le_of_ble_eq_true rfl) (Sh_spans_c (by first | assumption | exact rfl) (by omega) (fun c51 => (FC_cell_54 (fun _ => ?_) (fun z => absurd z (by decide)))) (fun c51 => (FC_cell_54 (fun z => absurd z (by decide)) (fun _ => (FC_cell_57 (FC_cell_58 (FC_cell_60 (Nat.le_of_ble_eq_true rfl) (FC_refuse_c (FC_cell_63 ?_)))))))))))))))) (fun z => absurd z (by decide)))))))))) (fun z => absurd z (by decide)))) (fun c14 => (FC_cell_17 (fun z => absurd z (by decide)) (fun _ => (FC_cell_20 (FC_cell_21 (FC_cell_22 (Nat.le_of_ble_eq_true rfl) (FC_refuse_c (FC_cell_25 ?_)))))))))))))))) (fun n1 => (FC_cell_4 (fun _ => (FC_cell_20 (FC_cell_21 (FC_cell_22 (Nat.le_of_ble_eq_true rfl) (FC_refuse_c (FC_cell_25 ?_)))))) (fun z => absurd z (by decide)))))))
  · obtain rfl := nI_inj e1 (by omega) (by omega); exact t2 c14 c31
  · obtain rfl := nI_inj e1 (by omega) (by omega)
    rw [ez] at c51
    obtain ⟨k, hk, rfl⟩ := (nIm1 (by omega)).mp c51
    refine (FC_cell_64 (FC_cell_65 (FC_cell_68 (FC_cell_69 (FC_cell_70 (FC_cell_71 (Nat.le_of_ble_eq_true rfl) (Sh_put_c (by first | assumption | exact rfl) (by first | assumption | exact rfl) (by omega) (by omega) (FC_cell_74 (FC_cell_75 (FC_cell_76 (Nat.le_of_ble_eq_true rfl) (FC_done_c (FC_cell_79 ?_))))))))))))
    exact t4 k hk rfl c14 c31
  · obtain rfl := nI_inj e1 (by omega) (by omega)
    rw [ez] at c51
    exact t3 c14 c31 (fun y => c51 ((nIm1 (by omega)).mpr y))
  · exact t1 c14
  · exact absurd ⟨j, Nat.zero_le _, by omega, rfl⟩ n1
theorem FM_cell_s {i v : Int32} {j z : Nat} (hj : j < 4) (ez : h.1 105 j = nI z) (hz : z ≤ 40) (t1 : ¬ inI v (-1000) 1000 → Q (-1) (pI h 57 0 1)) (t2 : inI v (-1000) 1000 → h.1 104 j = -1 → Q (-1) (pI h 57 0 10)) (t3 : inI v (-1000) 1000 → ¬ h.1 104 j = -1 → ¬ isLt i z → Q (-1) (pI h 57 0 12)) (t4 : ∀ k, k < z → i = nI k → inI v (-1000) 1000 → ¬ h.1 104 j = -1 → Q 1 (pI (pI h 106 (40 * j + k) (putv (h.1 104 j) v)) 57 0 0)) : E X (d + 3) FM_cell 0 [.ref 57, .int (nI j), .int i, .int v] [] h Q := by
  refine (FM_cell_0 (FM_cell_1 (FM_cell_2 (FM_cell_3 (Nat.le_of_ble_eq_true rfl) (FM_in_c (fun c3 => (FM_cell_6 (fun z => absurd z (by decide)) (fun _ => (FM_cell_9 (FM_cell_10 (FM_cell_13 (FM_cell_16 (Nat.le_of_ble_eq_true rfl) (FM_in_c (fun c16 => (FM_cell_19 (fun _ => (FM_cell_28 (FM_cell_29 (FM_cell_32 (FM_cell_33n (by first | assumption | exact rfl) (by omega) (FM_cell_34 (FM_cell_35 (fun c35 => (FM_cell_45 (FM_cell_46 (FM_cell_47 (FM_cell_48 (FM_cell_51 (FM_cell_52n (by first | assumption | exact rfl) (by omega) (FM_cell_53 (FM_cell_54 (FM_cell_55 (Nat.le_of_ble_eq_true rfl) (FM_in_c (fun c55 => (FM_cell_58 (fun _ => ?_) (fun z => absurd z (by decide)))) (fun c55 => (FM_cell_58 (fun z => absurd z (by decide)) (fun _ => (FM_cell_61 (FM_cell_62 (FM_cell_64 (Nat.le_of_ble_eq_true rfl) (FM_refused_c (FM_cell_67 ?_))))))))))))))))))) (fun c35 => (FM_cell_38 (FM_cell_39 (FM_cell_41 (Nat.le_of_ble_eq_true rfl) (FM_refused_c (FM_cell_44 ?_))))))))))))) (fun z => absurd z (by decide)))) (fun c16 => (FM_cell_19 (fun z => absurd z (by decide)) (fun _ => (FM_cell_22 (FM_cell_23 (FM_cell_24 (Nat.le_of_ble_eq_true rfl) (FM_refused_c (FM_cell_27 ?_)))))))))))))))) (fun c3 => (FM_cell_6 (fun _ => (FM_cell_22 (FM_cell_23 (FM_cell_24 (Nat.le_of_ble_eq_true rfl) (FM_refused_c (FM_cell_27 ?_)))))) (fun z => absurd z (by decide)))))))))
  · rw [ez] at c55
    obtain ⟨k, hk, rfl⟩ := (nIm1 (by omega)).mp c55
    have := t4 k hk rfl c16 (by assumption)
    refine (FM_cell_68 (FM_cell_69 (FM_cell_72 (FM_cell_74 (FM_cell_75 (FM_cell_76 (FM_cell_77 (FM_cell_78 (FM_cell_79 (FM_cell_82 (FM_cell_83n (by first | assumption | exact rfl) (by omega) (FM_cell_84 (fun c84 => (FM_cell_92 (FM_cell_93n (nI_addE (nI_mulE (show (40 : Int32) = nI 40 from rfl) (by first | assumption | exact rfl)) (by first | assumption | exact rfl)) (by omega) (FM_cell_94 (FM_cell_95 (FM_cell_96 (Nat.le_of_ble_eq_true rfl) (FM_done_c (FM_cell_99 ?_)))))))) (fun c84 => (FM_cell_87 (FM_cell_88 (FM_cell_89 (FM_cell_93n (nI_addE (nI_mulE (show (40 : Int32) = nI 40 from rfl) (by first | assumption | exact rfl)) (by first | assumption | exact rfl)) (by omega) (FM_cell_94 (FM_cell_95 (FM_cell_96 (Nat.le_of_ble_eq_true rfl) (FM_done_c (FM_cell_99 ?_))))))))))))))))))))))
    · rw [putv, if_neg c84] at this; exact this
    · rw [putv, if_pos c84] at this; exact this
  · rw [ez] at c55
    exact t3 c16 (by assumption) (fun y => c55 ((nIm1 (by omega)).mpr y))
  · exact t2 c16 (by assumption)
  · exact t1 c16
  · exact absurd (in3 ⟨j, Nat.zero_le _, by omega, rfl⟩) c3
set_option maxHeartbeats 1000000 in
theorem pp_cell : PP_cell := by
  intro X h s i v hi
  obtain ⟨D, w, S, L, W, K, ⟨hm1, bk, hb, hb1, hb2⟩, hc, hl, hs, hn, hw, hk, ha, hx, hh, hp⟩ := id hi
  by_cases z3 : isN s 0 3
  · obtain ⟨j, -, u, e⟩ := id z3
    subst e
    obtain ⟨a1, a2, ⟨z, -, hz, ez⟩, a4⟩ := hh.1 j (by omega)
    have fm : ∀ {h1 : HH} {Q : Int32 → HH → Prop} (e1 : h1.1 105 j = h.1 105 j) (e2 : h1.1 104 j = h.1 104 j) (t1 : ¬ inI v (-1000) 1000 → Q (-1) (pI h1 57 0 1)) (t2 : inI v (-1000) 1000 → h.1 54 j = -1 → Q (-1) (pI h1 57 0 10)) (t3 : inI v (-1000) 1000 → ¬ h.1 54 j = -1 → ¬ isLt i z → Q (-1) (pI h1 57 0 12)) (t4 : ∀ k, k < z → i = nI k → inI v (-1000) 1000 → ¬ h.1 54 j = -1 → Q 1 (pI (pI h1 106 (40 * j + k) (putv (h.1 54 j) v)) 57 0 0)), E X 59 FM_cell 0 [.ref 57, .int (nI j), .int i, .int v] [] h1 Q := by
      intro h1 Q e1 e2 t1 t2 t3 t4
      rw [a1, ← e2] at t2 t3 t4
      exact FM_cell_s (d := 56) (by omega) (e1.trans ez) hz t1 t2 t3 t4
    refine FC_cell_s (d := 56) (by omega) (a4.trans ez) hz (fun b1 => ?_) (fun b1 b2 => ?_) (fun b1 b2 b3 => ?_) (fun k b0 b00 b1 b2 => ?_)
    · exact fm (by simp [pI1]) (by simp [pI1]) (fun _ => ⟨rfl, Inv_refuse hi⟩) (fun c => absurd c b1) (fun c => absurd c b1) (fun _ _ _ c => absurd c b1)
    · exact fm (by simp [pI1]) (by simp [pI1]) (fun c => absurd b1 c) (fun _ _ => ⟨rfl, Inv_refuse hi⟩) (fun _ c => absurd b2 c) (fun _ _ _ _ c => absurd b2 c)
    · exact fm (by simp [pI1]) (by simp [pI1]) (fun c => absurd b1 c) (fun _ c => absurd c b2) (fun _ _ _ => ⟨rfl, Inv_refuse hi⟩) (fun k c1 c2 _ _ => absurd ⟨k, c1, c2⟩ b3)
    · refine fm (by simp [pI1]) (by simp [pI1]) (fun c => absurd b1 c) (fun _ c => absurd c b2) (fun _ _ c => absurd ⟨k, b0, b00⟩ c) (fun k' c1 c2 _ _ => ⟨rfl, ?_⟩)
      obtain rfl := nI_inj (b00.symm.trans c2) (by omega) (by omega)
      exact ⟨D, w, S, L, W, K, ⟨by simp [pI1], bk, hb, by simp [pI1, hb1], by simp [pI1, hb2]⟩, iCnt_cg (by simp [pI1]) hc, iLand_cg (by simp [pI_r]) hl, iSigns_cg (by simp [pI_r]) (fun k _ => by simp [pI_r]) hs, iLines_cg (by simp [pI_r]) (fun k _ => by simp [pI_r]) hn, iWays_cg (by simp [pI_r, pI1]) (fun k _ => by simp [pI_r]) hw, iWorks_cg (by simp [pI_r, pI1]) (fun k _ => by simp [pI_r]) hk, iWas_cg (by simp [pI_r]) ha, iAct_cg (by simp [pI_r, pI1]) hx, iSheet_cell (j := j) (i := k) (v := putv (h.1 54 j) v) (by simp [pI_r]) (fun q => by simp [pI1]) (fun q => by simp [pI1]) hh, iKept_cg (Nat.le_refl _) (Nat.le_refl _) (Nat.le_refl _) (Nat.le_refl _) (by simp [pI_r, pI1]) (fun k _ => by simp [pI_r]) (fun k _ => by simp [pI_r]) (fun k _ => by simp [pI_r]) (fun k _ => by simp [pI_r]) hp⟩
  · exact FC_cell_f (d := 56) z3 (FM_cell_f (d := 56) z3 ⟨rfl, Inv_refuse hi⟩)
end CE
