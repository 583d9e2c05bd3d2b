section PP5
variable {X : SX} {d : Nat} {h : HH} {Q : Int32 → HH → Prop}
theorem FC_sheet_s {s a n : Int32} (t : ∀ j, j ≤ 3 → s = nI j → inI a (-1) 2 → (a = -1 ∨ inI n 0 40) → Q 1 (pI (fR (pI (pI h 54 j a) 55 j (if a = -1 then 0 else n)) 56 (j * 40) 40 0) 0 8 0)) (f : ¬ (isN s 0 3 ∧ inI a (-1) 2 ∧ (a = -1 ∨ inI n 0 40)) → Q (-1) (pI h 0 8 1)) : E X (d + 3) FC_sheet 0 [.ref 0, .int s, .int a, .int n, U0] [] h Q := by
  refine (FC_sheet_0 (FC_sheet_1 (FC_sheet_2 (fun c2 => (FC_sheet_15 (FC_sheet_16 (FC_sheet_20 (FC_sheet_22 (FC_sheet_23 (Nat.le_of_ble_eq_true rfl) (FC_isSheet_n (fun j23 u23 e23 => (FC_sheet_26 (fun z => absurd z (by decide)) (fun _ => (FC_sheet_29 (FC_sheet_30 (FC_sheet_31 (FC_sheet_32 (Nat.le_of_ble_eq_true rfl) (FC_within_c (fun c32 => (FC_sheet_35 (fun z => absurd z (by decide)) (fun _ => (FC_sheet_38 (FC_sheet_40 (fun _ => (FC_sheet_49 (FC_sheet_50 (FC_sheet_53 (FC_sheet_54 (FC_sheet_55 (FC_sheet_56 (FC_sheet_57 (fun c57 => (FC_sheet_64 (FC_sheet_65 (Nat.le_of_ble_eq_true rfl) (Sh_lay_c (by first | assumption | exact rfl) (by omega) (FC_sheet_68 (FC_sheet_69 (FC_sheet_70 (Nat.le_of_ble_eq_true rfl) (FC_done_c (FC_sheet_73 ?_))))))))) (fun c57 => (FC_sheet_60 (FC_sheet_61 (FC_sheet_65 (Nat.le_of_ble_eq_true rfl) (Sh_lay_c (by first | assumption | exact rfl) (by omega) (FC_sheet_68 (FC_sheet_69 (FC_sheet_70 (Nat.le_of_ble_eq_true rfl) (FC_done_c (FC_sheet_73 ?_)))))))))))))))))) (fun z => absurd z (by decide))))))) (fun c32 => (FC_sheet_35 (fun _ => (FC_sheet_43 (FC_sheet_44 (FC_sheet_45 (Nat.le_of_ble_eq_true rfl) (FC_refuse_c (FC_sheet_48 ?_)))))) (fun z => absurd z (by decide)))))))))))) (fun n23 => (FC_sheet_26 (fun _ => (FC_sheet_43 (FC_sheet_44 (FC_sheet_45 (Nat.le_of_ble_eq_true rfl) (FC_refuse_c (FC_sheet_48 ?_)))))) (fun z => absurd z (by decide))))))))))) (fun c2 => (FC_sheet_5 (FC_sheet_6 (FC_sheet_7 (FC_sheet_9 (Nat.le_of_ble_eq_true rfl) (FC_within_c (fun c9 => (FC_sheet_12 (fun z => absurd z (by decide)) (fun _ => (FC_sheet_15 (FC_sheet_16 (FC_sheet_20 (FC_sheet_22 (FC_sheet_23 (Nat.le_of_ble_eq_true rfl) (FC_isSheet_n (fun j23 u23 e23 => (FC_sheet_26 (fun z => absurd z (by decide)) (fun _ => (FC_sheet_29 (FC_sheet_30 (FC_sheet_31 (FC_sheet_32 (Nat.le_of_ble_eq_true rfl) (FC_within_c (fun c32 => (FC_sheet_35 (fun z => absurd z (by decide)) (fun _ => (FC_sheet_38 (FC_sheet_40 (fun _ => (FC_sheet_49 (FC_sheet_50 (FC_sheet_53 (FC_sheet_54 (FC_sheet_55 (FC_sheet_56 (FC_sheet_57 (fun c57 => (FC_sheet_64 (FC_sheet_65 (Nat.le_of_ble_eq_true rfl) (Sh_lay_c (by first | assumption | exact rfl) (by omega) (FC_sheet_68 (FC_sheet_69 (FC_sheet_70 (Nat.le_of_ble_eq_true rfl) (FC_done_c (FC_sheet_73 ?_))))))))) (fun c57 => (FC_sheet_60 (FC_sheet_61 (FC_sheet_65 (Nat.le_of_ble_eq_true rfl) (Sh_lay_c (by first | assumption | exact rfl) (by omega) (FC_sheet_68 (FC_sheet_69 (FC_sheet_70 (Nat.le_of_ble_eq_true rfl) (FC_done_c (FC_sheet_73 ?_)))))))))))))))))) (fun z => absurd z (by decide))))))) (fun c32 => (FC_sheet_35 (fun _ => (FC_sheet_43 (FC_sheet_44 (FC_sheet_45 (Nat.le_of_ble_eq_true rfl) (FC_refuse_c (FC_sheet_48 ?_)))))) (fun z => absurd z (by decide)))))))))))) (fun n23 => (FC_sheet_26 (fun _ => (FC_sheet_43 (FC_sheet_44 (FC_sheet_45 (Nat.le_of_ble_eq_true rfl) (FC_refuse_c (FC_sheet_48 ?_)))))) (fun z => absurd z (by decide))))))))))))) (fun c9 => (FC_sheet_12 (fun _ => (FC_sheet_19 (FC_sheet_20 (FC_sheet_22 (FC_sheet_23 (Nat.le_of_ble_eq_true rfl) (FC_isSheet_n (fun j23 u23 e23 => (FC_sheet_26 (fun z => absurd z (by decide)) (fun _ => (FC_sheet_29 (FC_sheet_30 (FC_sheet_31 (FC_sheet_32 (Nat.le_of_ble_eq_true rfl) (FC_within_c (fun c32 => (FC_sheet_35 (fun z => absurd z (by decide)) (fun _ => (FC_sheet_38 (FC_sheet_40 (fun z => absurd z (by decide)) (fun _ => (FC_sheet_43 (FC_sheet_44 (FC_sheet_45 (Nat.le_of_ble_eq_true rfl) (FC_refuse_c (FC_sheet_48 ?_))))))))))) (fun c32 => (FC_sheet_35 (fun _ => (FC_sheet_43 (FC_sheet_44 (FC_sheet_45 (Nat.le_of_ble_eq_true rfl) (FC_refuse_c (FC_sheet_48 ?_)))))) (fun z => absurd z (by decide)))))))))))) (fun n23 => (FC_sheet_26 (fun _ => (FC_sheet_43 (FC_sheet_44 (FC_sheet_45 (Nat.le_of_ble_eq_true rfl) (FC_refuse_c (FC_sheet_48 ?_)))))) (fun z => absurd z (by decide)))))))))) (fun z => absurd z (by decide)))))))))))))
  · have := t j23 u23 e23 c32 (Or.inl c2); rw [if_pos c2] at this; exact absurd c2 (by assumption)
  · have := t j23 u23 e23 c32 (Or.inl c2); rw [if_pos c2] at this; exact this
  all_goals first | (exact f (fun z => by obtain ⟨_, _, _⟩ := z; contradiction)) | skip
  · have := t j23 u23 e23 c32 (Or.inr c9); rw [if_neg c2] at this; exact this
  · exact absurd (by assumption) c2
  all_goals exact f (fun z => z.2.2.elim c2 c9)
theorem FM_sheet_s {s a n : Int32} (t : ∀ j, j ≤ 3 → s = nI j → inI a (-1) 2 → (a = -1 ∨ inI n 0 40) → Q 1 (pI (fR (pI (pI h 104 j a) 105 j (if a = -1 then 0 else n)) 106 (40 * j) 40 0) 57 0 0)) (f : ¬ (isN s 0 3 ∧ inI a (-1) 2 ∧ (a = -1 ∨ inI n 0 40)) → Q (-1) (pI h 57 0 1)) : E X (d + 3) FM_sheet 0 [.ref 57, .int s, .int a, .int n, U0] [] h Q := by
  have tt : ∀ j, j ≤ 3 → s = nI j → inI a (-1) 2 → (a = -1 ∨ inI n 0 40) → E X (d + 2 + 1) FM_sheet 65 [.ref 57, .int (nI j), .int a, .int n, .int 0] [] (pI (pI h 104 j a) 105 j (if a = -1 then 0 else n)) Q := fun j u e c z => by
    have := FM_sheet_l (X := X) (d := d + 2) (h := pI (pI h 104 j a) 105 j (if a = -1 then 0 else n)) (Q := Q) (s := j) (a2 := a) (a3 := n) (by omega) (t j u e c z) 40 0 rfl
    rw [fR_0] at this
    exact this
  have z30 : ∀ {P : Prop}, ¬ inI s 0 3 → isN s 0 3 → P := fun g y => absurd ((isN_of (a := 0) (b := 3) (l := 0) (m := 3) rfl rfl (by omega) (by omega)).mpr y) g
  by_cases z3 : inI s 0 3
  · obtain ⟨j, -, u, e⟩ := (isN_of (l := 0) (m := 3) rfl rfl (by omega) (by omega)).mp z3
    have hj : j < 4 := by omega
    subst e
    refine (FM_sheet_0 (FM_sheet_1 (FM_sheet_2 (FM_sheet_3 (Nat.le_of_ble_eq_true rfl) (FM_in_c (fun c3 => (FM_sheet_6 (fun z => absurd z (by decide)) (fun _ => (FM_sheet_9 (FM_sheet_10 (FM_sheet_11 (FM_sheet_12 (Nat.le_of_ble_eq_true rfl) (FM_in_c (fun c12 => (FM_sheet_15 (fun z => absurd z (by decide)) (fun _ => (FM_sheet_18 (FM_sheet_19 (FM_sheet_20 (fun c20 => (FM_sheet_39 (FM_sheet_40 (FM_sheet_43 (FM_sheet_44 (FM_sheet_45n (by first | assumption | exact rfl) (by omega) (FM_sheet_46 (FM_sheet_47 (FM_sheet_50 (FM_sheet_51 (FM_sheet_52 (FM_sheet_53 (fun c53 => (FM_sheet_60 (FM_sheet_61n (by first | assumption | exact rfl) (by omega) (FM_sheet_62 (FM_sheet_63 ?_))))) (fun c53 => (FM_sheet_56 (FM_sheet_57 (FM_sheet_61n (by first | assumption | exact rfl) (by omega) (FM_sheet_62 (FM_sheet_63 ?_)))))))))))))))))) (fun c20 => (FM_sheet_23 (FM_sheet_24 (FM_sheet_25 (FM_sheet_27 (Nat.le_of_ble_eq_true rfl) (FM_in_c (fun c27 => (FM_sheet_30 (fun _ => (FM_sheet_39 (FM_sheet_40 (FM_sheet_43 (FM_sheet_44 (FM_sheet_45n (by first | assumption | exact rfl) (by omega) (FM_sheet_46 (FM_sheet_47 (FM_sheet_50 (FM_sheet_51 (FM_sheet_52 (FM_sheet_53 (fun c53 => (FM_sheet_60 (FM_sheet_61n (by first | assumption | exact rfl) (by omega) (FM_sheet_62 (FM_sheet_63 ?_))))) (fun c53 => (FM_sheet_56 (FM_sheet_57 (FM_sheet_61n (by first | assumption | exact rfl) (by omega) (FM_sheet_62 (FM_sheet_63 ?_)))))))))))))))))) (fun z => absurd z (by decide)))) (fun c27 => (FM_sheet_30 (fun z => absurd z (by decide)) (fun _ => (FM_sheet_33 (FM_sheet_34 (FM_sheet_35 (Nat.le_of_ble_eq_true rfl) (FM_refused_c (FM_sheet_38 ?_)))))))))))))))))))) (fun c12 => (FM_sheet_15 (fun _ => (FM_sheet_33 (FM_sheet_34 (FM_sheet_35 (Nat.le_of_ble_eq_true rfl) (FM_refused_c (FM_sheet_38 ?_)))))) (fun z => absurd z (by decide)))))))))))) (fun c3 => (FM_sheet_6 (fun _ => (FM_sheet_33 (FM_sheet_34 (FM_sheet_35 (Nat.le_of_ble_eq_true rfl) (FM_refused_c (FM_sheet_38 ?_)))))) (fun z => absurd z (by decide)))))))))
    · exact absurd c20 c53
    · have := tt j u rfl c12 (Or.inl c20); rw [if_pos c20] at this; exact this
    · have := tt j u rfl c12 (Or.inr c27); rw [if_neg c20] at this; exact this
    · exact absurd c53 c20
    · exact f (fun z => z.2.2.elim c20 c27)
    · exact f (fun z => c12 z.2.1)
    · exact absurd z3 c3
  · refine (FM_sheet_0 (FM_sheet_1 (FM_sheet_2 (FM_sheet_3 (Nat.le_of_ble_eq_true rfl) (FM_in_c (fun c3 => (FM_sheet_6 (fun z => absurd z (by decide)) (fun _ => (FM_sheet_9 (FM_sheet_10 (FM_sheet_11 (FM_sheet_12 (Nat.le_of_ble_eq_true rfl) (FM_in_c (fun c12 => (FM_sheet_15 (fun z => absurd z (by decide)) (fun _ => (FM_sheet_18 (FM_sheet_19 (FM_sheet_20 (fun c20 => ?_) (fun c20 => (FM_sheet_23 (FM_sheet_24 (FM_sheet_25 (FM_sheet_27 (Nat.le_of_ble_eq_true rfl) (FM_in_c (fun c27 => (FM_sheet_30 (fun _ => ?_) (fun z => absurd z (by decide)))) (fun c27 => (FM_sheet_30 (fun z => absurd z (by decide)) (fun _ => (FM_sheet_33 (FM_sheet_34 (FM_sheet_35 (Nat.le_of_ble_eq_true rfl) (FM_refused_c (FM_sheet_38 ?_)))))))))))))))))))) (fun c12 => (FM_sheet_15 (fun _ => (FM_sheet_33 (FM_sheet_34 (FM_sheet_35 (Nat.le_of_ble_eq_true rfl) (FM_refused_c (FM_sheet_38 ?_)))))) (fun z => absurd z (by decide)))))))))))) (fun c3 => (FM_sheet_6 (fun _ => (FM_sheet_33 (FM_sheet_34 (FM_sheet_35 (Nat.le_of_ble_eq_true rfl) (FM_refused_c (FM_sheet_38 ?_)))))) (fun z => absurd z (by decide)))))))))
    all_goals first | exact absurd c3 z3 | exact f (fun z => z30 z3 z.1)
theorem iSheet_lay {h h' : HH} {j : Nat} {a z : Int32} (hj : j ≤ 3) (ha : a = -1 ∨ isN a 0 2) (hz : isN z 0 40) (e1 : ∀ k, h'.1 54 k = if k = j then a else h.1 54 k) (e2 : ∀ k, h'.1 104 k = if k = j then a else h.1 104 k) (e3 : ∀ k, h'.1 55 k = if k = j then z else h.1 55 k) (e4 : ∀ k, h'.1 105 k = if k = j then z else h.1 105 k)
    (e5 : ∀ k, h'.1 56 k = if j * 40 ≤ k ∧ k < j * 40 + 40 then 0 else h.1 56 k) (e6 : ∀ k, h'.1 106 k = if 40 * j ≤ k ∧ k < 40 * j + 40 then 0 else h.1 106 k) (H : iSheet h) : iSheet h' := by
  refine ⟨fun s hs => ?_, fun k hk => ?_⟩
  · obtain ⟨a1, a2, a3, a4⟩ := H.1 s hs
    rw [e1, e2, e3, e4]
    by_cases q : s = j
    · simp only [if_pos q]; exact ⟨trivial, ha, hz, trivial⟩
    · simp only [if_neg q]; exact ⟨a1, a2, a3, a4⟩
  · rw [e5, e6]
    by_cases q : j * 40 ≤ k ∧ k < j * 40 + 40
    · rw [if_pos q, if_pos (by omega)]
    · rw [if_neg q, if_neg (by omega)]; exact H.2 k hk
theorem inI_m1 {a : Int32} {m : Nat} {M : Int32} (hM : M = nI m) (hm : m < 2 ^ 31) (h : inI a (-1) M) : a = -1 ∨ isN a 0 m := by
  by_cases z : a = -1
  · exact Or.inl z
  · refine Or.inr ((isN_of (a := 0) (l := 0) (m := m) rfl hM (by omega) hm).mp ⟨?_, h.2⟩)
    have h1 := (fa_le _ _).mp h.1
    have e0 : (-1 : Int32).toInt = -1 := by decide
    have e1 : (0 : Int32).toInt = 0 := by decide
    refine (fa_le _ _).mpr ?_
    have : ¬ a.toInt = -1 := fun y => z ((fa_eq _ _).mpr (by rw [y, e0]))
    omega
set_option maxHeartbeats 1000000 in
theorem pp_sheet : PP_sheet := by
  intro X h s a n hi
  obtain ⟨D, w, S, L, W, K, ⟨hm1, bk, hb, hb1, hb2⟩, hc, hl, hs, hn, hw, hk, ha, hx, hh, hp⟩ := id hi
  obtain ⟨hD6, hw60, hD, hD', hwk, hwk', hwg, hwg', hpd, hln, her, hS, hL, hW, hK⟩ := id hc
  refine FC_sheet_s (fun j u1 e1 c z => ?_) (fun nA => ?_)
  · refine FM_sheet_s (fun j' v1 f1 c' z' => ?_) (fun nA => absurd ⟨⟨j, Nat.zero_le _, u1, e1⟩, c, z⟩ nA)
    obtain rfl := nI_inj (e1.symm.trans f1) (by omega) (by omega)
    have hz : isN (if a = -1 then 0 else n) 0 40 := by
      by_cases y : a = -1
      · rw [if_pos y]; exact ⟨0, by omega, by omega, rfl⟩
      · rw [if_neg y]; exact (isN_of (l := 0) (m := 40) rfl rfl (by omega) (by omega)).mp (z.resolve_left y)
    refine ⟨rfl, ?_⟩
    exact ⟨D, w, S, L, W, K, ⟨by simp [pI1, fR1], bk, hb, by simp [pI1, fR1, hb1], by simp [pI1, fR1, hb2]⟩, iCnt_cg (by simp [pI1, fR1]) hc, iLand_cg (by simp [pI_r, fR_r]) hl, iSigns_cg (by simp [pI_r, fR_r]) (fun k _ => by simp [pI_r, fR_r]) hs, iLines_cg (by simp [pI_r, fR_r]) (fun k _ => by simp [pI_r, fR_r]) hn, iWays_cg (by simp [pI_r, fR_r]) (fun k _ => by simp [pI_r, fR_r]) hw, iWorks_cg (by simp [pI_r, fR_r]) (fun k _ => by simp [pI_r, fR_r]) hk, iWas_cg (by simp [pI_r, fR_r]) ha, iAct_cg (by simp [pI_r, pI1, fR1, fR_r]) hx,
      iSheet_lay (j := j) (a := a) (z := if a = -1 then 0 else n) u1 (inI_m1 (m := 2) rfl (by omega) c) hz (fun k => by simp [pI1, fR1]) (fun k => by simp [pI1, fR1]) (fun k => by simp [pI1, fR1]) (fun k => by simp [pI1, fR1]) (fun k => by simp [pI1, fR1]) (fun k => by simp [pI1, fR1]) hh,
      iKept_cg (Nat.le_refl _) (Nat.le_refl _) (Nat.le_refl _) (Nat.le_refl _) (by simp [pI_r, pI1, fR1, fR_r]) (fun k _ => by simp [pI_r, fR_r]) (fun k _ => by simp [pI_r, fR_r]) (fun k _ => by simp [pI_r, fR_r]) (fun k _ => by simp [pI_r, fR_r]) hp⟩
  · exact FM_sheet_s (fun j' v1 f1 c' z' => absurd ⟨⟨j', Nat.zero_le _, v1, f1⟩, c', z'⟩ nA) (fun _ => ⟨rfl, Inv_refuse hi⟩)
end PP5
