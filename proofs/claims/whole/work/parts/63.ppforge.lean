def r0 (L : Nat) (kd : Nat → Int32) (q j : Nat) : Int32 × Int32 := if j < L then (if uB (kd j).toNatClampNeg q = true then (kd j, 0) else (-1, 11)) else (-1, 10)
def r2 (so ln ce : Nat → Int32) (s : Nat) (n : Int32) : Int32 × Int32 := if so s = -1 then (-1, 10) else if so s = 1 then (if 0 ≤ n ∧ n ≤ ln s - 1 then (ce (s * 40 + n.toNatClampNeg), 0) else (-1, 12)) else (-1, 11)
def csu (ce : Nat → Int32) (b : Nat) : Nat → Int32
  | 0 => 0
  | n + 1 => csu ce b n + ce (b + n)
theorem csu_cg {ce ce' : Nat → Int32} {b : Nat} : ∀ n, (∀ k, k < n → ce (b + k) = ce' (b + k)) → csu ce b n = csu ce' b n
  | 0, _ => rfl
  | n + 1, e => by unfold csu; rw [e n (by omega), csu_cg n (fun k hk => e k (by omega))]
def r3 (so ln ce : Nat → Int32) (s : Nat) (n : Int32) : Int32 × Int32 := if so s = -1 then (-1, 10) else if so s = 0 then (if 0 ≤ n ∧ n + 1 ≤ ln s ∧ n + n ≤ 6 then (csu ce (s * 40 + 1) n.toNatClampNeg, 0) else (-1, 12)) else (-1, 11)
def r4 (L : Nat) (kd : Nat → Int32) (j : Nat) : Int32 × Int32 := if j < L then (if kd j = 1 ∨ kd j = 2 then (kd j, 0) else (-1, 14)) else (0, 0)
section FF
variable {X : SX} {d j L q s D w S W K : Nat} {h : HH} {Q : Int32 → HH → Prop} {x n y a b c : Int32}
theorem FC_isLine_j (hL : h.1 9 1 = nI L) (h12 : L ≤ 12) (hj : j < 12) (t : j < L → Q 1 h) (f : ¬ j < L → Q 0 h) : E X (d + 1) FC_isLine 0 [.ref 0, .int (nI j)] [] h Q :=
  FC_isLine_n hL h12 (fun i hi e => t (by have := nI_inj e (by omega) (by omega); omega)) (fun g => f (fun z => g ⟨j, z, rfl⟩))
theorem FC_forgeKind_c (hn : iLines h 9 L 79) (hj : j < 12) (hq : q < 6) (k : Q (r0 L (h.1 71) q j).1 (pI h 0 8 (r0 L (h.1 71) q j).2)) : E X (d + 3) FC_forgeKind 0 [.ref 0, .int (nI q), .int (nI j), U0] [] h Q := by
  unfold r0 at k
  refine (FC_forgeKind_0 (FC_forgeKind_1 (FC_forgeKind_2 (Nat.le_of_ble_eq_true rfl) ?_)))
  refine FC_isLine_j hn.2.1 hn.1 hj (fun z => ?_) (fun z => ?_)
  · rw [if_pos z] at k
    obtain ⟨⟨⟨K', -, K5, eK⟩, -⟩, b0, -⟩ := hn.2.2 j z
    have b0' : h.1 10 (j * 9 + 0) = h.1 71 j := b0
    rw [show (h.1 71 j).toNatClampNeg = K' by rw [eK, nI_clamp (by omega)]] at k
    refine (FC_forgeKind_5 (fun _ => (FC_forgeKind_15 (FC_forgeKind_16 (FC_forgeKind_19 (FC_forgeKind_22 (FC_forgeKind_23 (FC_forgeKind_24 (Nat.le_of_ble_eq_true rfl) (Co_get_c (by first | assumption | exact rfl) (show (0 : Int32) = nI 0 from rfl) (by omega) (by omega) (FC_forgeKind_27 (FC_forgeKind_28 (FC_forgeKind_29 (FC_forgeKind_30 (Nat.le_of_ble_eq_true rfl) ?_)))))))))))) (fun z => absurd z (by decide)))
    refine FC_isUnder_c (K := K') (by omega) hq (b0'.trans eK) rfl (fun y => ?_) (fun y => ?_)
    · rw [if_pos y] at k
      refine (FC_forgeKind_33 (fun z => absurd z (by decide)) (fun _ => (FC_forgeKind_36 (FC_forgeKind_37 (FC_forgeKind_38 (Nat.le_of_ble_eq_true rfl) (FC_done_c (FC_forgeKind_41 (FC_forgeKind_50 ?_))))))))
      rw [b0']; exact k
    · rw [y, if_neg (by decide)] at k
      refine (FC_forgeKind_33 (fun _ => (FC_forgeKind_44 (FC_forgeKind_45 (FC_forgeKind_47 (Nat.le_of_ble_eq_true rfl) (FC_refuse_c (FC_forgeKind_50 ?_)))))) (fun z => absurd z (by decide)))
      exact k
  · rw [if_neg z] at k
    refine (FC_forgeKind_5 (fun z => absurd z (by decide)) (fun _ => (FC_forgeKind_8 (FC_forgeKind_9 (FC_forgeKind_11 (Nat.le_of_ble_eq_true rfl) (FC_refuse_c (FC_forgeKind_14 ?_)))))))
    exact k
theorem uB_1 : ∀ K, K < 6 → (uB K 1 = true ↔ K = 1 ∨ K = 2) := by decide
theorem FC_forgeRow_c (hn : iLines h 9 L 79) (hj : j < 12) (k : Q (r4 L (h.1 71) j).1 (pI h 0 8 (r4 L (h.1 71) j).2)) : E X (d + 3) FC_forgeRow 0 [.ref 0, .int (nI j), U0] [] h Q := by
  unfold r4 at k
  refine (FC_forgeRow_0 (FC_forgeRow_1 (FC_forgeRow_2 (Nat.le_of_ble_eq_true rfl) ?_)))
  refine FC_isLine_j hn.2.1 hn.1 hj (fun z => ?_) (fun z => ?_)
  · rw [if_pos z] at k
    obtain ⟨⟨⟨K', -, K5, eK⟩, -⟩, b0, -⟩ := hn.2.2 j z
    have b0' : h.1 10 (j * 9 + 0) = h.1 71 j := b0
    have e12 : (h.1 71 j = 1 ∨ h.1 71 j = 2) ↔ uB K' 1 = true := by
      rw [uB_1 K' (by omega), eqN eK (show (1 : Int32) = nI 1 from rfl) (by omega) (by omega), eqN eK (show (2 : Int32) = nI 2 from rfl) (by omega) (by omega)]
    refine (FC_forgeRow_5 (fun _ => (FC_forgeRow_14 (FC_forgeRow_15 (FC_forgeRow_18 (FC_forgeRow_21 (FC_forgeRow_22 (FC_forgeRow_23 (Nat.le_of_ble_eq_true rfl) (Co_get_c (by first | assumption | exact rfl) (show (0 : Int32) = nI 0 from rfl) (by omega) (by omega) (FC_forgeRow_26 (FC_forgeRow_27 (FC_forgeRow_28 (FC_forgeRow_29 (Nat.le_of_ble_eq_true rfl) ?_)))))))))))) (fun z => absurd z (by decide)))
    refine FC_isUnder_c (K := K') (j := 1) (by omega) (by omega) (b0'.trans eK) rfl (fun y => ?_) (fun y => ?_)
    · rw [if_pos (e12.mpr y)] at k
      refine (FC_forgeRow_32 (fun z => absurd z (by decide)) (fun _ => (FC_forgeRow_35 (FC_forgeRow_36 (FC_forgeRow_37 (Nat.le_of_ble_eq_true rfl) (FC_done_c (FC_forgeRow_40 (FC_forgeRow_49 ?_))))))))
      rw [b0']; exact k
    · rw [if_neg (fun z => by rw [e12.mp z] at y; cases y)] at k
      refine (FC_forgeRow_32 (fun _ => (FC_forgeRow_43 (FC_forgeRow_44 (FC_forgeRow_46 (Nat.le_of_ble_eq_true rfl) (FC_refuse_c (FC_forgeRow_49 ?_)))))) (fun z => absurd z (by decide)))
      exact k
  · rw [if_neg z] at k
    refine (FC_forgeRow_5 (fun z => absurd z (by decide)) (fun _ => (FC_forgeRow_8 (FC_forgeRow_9 (FC_forgeRow_10 (Nat.le_of_ble_eq_true rfl) (FC_done_c (FC_forgeRow_13 ?_)))))))
    exact k
theorem FC_forgeShort_c (hh : iSheet h) (hs : s < 4) (hn : inI n (-100) 100) (k : Q (r2 (h.1 104) (h.1 105) (h.1 106) s n).1 (pI h 0 8 (r2 (h.1 104) (h.1 105) (h.1 106) s n).2)) : E X (d + 3) FC_forgeShort 0 [.ref 0, .int n, .int (nI s), U0] [] h Q := by
  obtain ⟨x1, x2, ⟨ln, -, ln40, eln⟩, x4⟩ := hh.1 s hs
  unfold r2 at k
  refine (FC_forgeShort_0 (FC_forgeShort_1 (FC_forgeShort_4 (FC_forgeShort_5 (FC_forgeShort_6 (Nat.le_of_ble_eq_true rfl) ?_)))))
  refine Sh_faultAs_c (s0 := s) hs rfl (fun g => ?_) (fun g1 g2 => ?_) (fun g1 g2 => ?_)
  · rw [x1] at g; rw [if_pos g] at k
    refine (FC_forgeShort_9 (FC_forgeShort_10 (FC_forgeShort_11 (fun z => absurd z (by decide)) (fun _ => (FC_forgeShort_14 (FC_forgeShort_15 (FC_forgeShort_16 (Nat.le_of_ble_eq_true rfl) (FC_refuse_c (FC_forgeShort_19 ?_)))))))))
    exact k
  · rw [x1] at g1 g2; rw [if_neg g1, if_neg g2] at k
    refine (FC_forgeShort_9 (FC_forgeShort_10 (FC_forgeShort_11 (fun z => absurd z (by decide)) (fun _ => (FC_forgeShort_14 (FC_forgeShort_15 (FC_forgeShort_16 (Nat.le_of_ble_eq_true rfl) (FC_refuse_c (FC_forgeShort_19 ?_)))))))))
    exact k
  · rw [x1] at g1 g2; rw [if_neg g1, if_pos g2] at k
    refine (FC_forgeShort_9 (FC_forgeShort_10 (FC_forgeShort_11 (fun _ => (FC_forgeShort_20 (FC_forgeShort_21 (FC_forgeShort_24 (FC_forgeShort_25 (FC_forgeShort_26 (FC_forgeShort_27 (Nat.le_of_ble_eq_true rfl) (Sh_spans_c (by first | assumption | exact rfl) (by omega) (fun c27 => (FC_forgeShort_30 (fun z => absurd z (by decide)) (fun _ => (FC_forgeShort_33 (FC_forgeShort_34 (FC_forgeShort_35 (FC_forgeShort_38 (FC_forgeShort_39 (FC_forgeShort_40 (Nat.le_of_ble_eq_true rfl) ?_))))))))) (fun c27 => (FC_forgeShort_30 (fun _ => (FC_forgeShort_49 (FC_forgeShort_50 (FC_forgeShort_52 (Nat.le_of_ble_eq_true rfl) (FC_refuse_c (FC_forgeShort_55 ?_)))))) (fun z => absurd z (by decide)))))))))))) (fun z => absurd z (by decide)))))
    · rw [x4] at c27
      rw [if_pos ⟨c27.1, c27.2⟩] at k
      rw [eln, show (1 : Int32) = nI 1 from rfl] at c27
      obtain ⟨I, rfl, hI⟩ := span_n ln40 (by omega) c27
      refine Sh_get_c rfl rfl hs (by omega) ?_
      rw [nI_clamp (by omega), ← hh.2 _ (by omega)] at k
      refine (FC_forgeShort_43 (Nat.le_of_ble_eq_true rfl) (FC_done_c (FC_forgeShort_46 (FC_forgeShort_55 ?_))))
      exact k
    · rw [x4] at c27
      rw [if_neg (fun z => c27 ⟨z.1, z.2⟩)] at k
      exact k
theorem FM_shorts_c (hh : iSheet h) (hs : s < 4) (k : Q (r2 (h.1 104) (h.1 105) (h.1 106) s n).1 (pI h 57 0 (r2 (h.1 104) (h.1 105) (h.1 106) s n).2)) : E X (d + 3) FM_shorts 0 [.ref 57, .int n, .int (nI s)] [] h Q := by
  obtain ⟨x1, x2, ⟨ln, -, ln40, eln⟩, x4⟩ := hh.1 s hs
  unfold r2 at k
  have sec : ∀ g1 : ¬ h.1 104 s = -1, h.1 104 s = 1 → E X (d + 3) FM_shorts 44 [.ref 57, .int n, .int (nI s)] [] h Q := fun g1 g2 => by
    rw [if_neg g1, if_pos g2] at k
    refine (FM_shorts_44 (FM_shorts_45 (FM_shorts_46 (FM_shorts_47 (FM_shorts_50 (FM_shorts_51n (by first | assumption | exact rfl) (by omega) (FM_shorts_52 (FM_shorts_53 (FM_shorts_54 (Nat.le_of_ble_eq_true rfl) (FM_in_c (fun c54 => (FM_shorts_57 (fun z => absurd z (by decide)) (fun _ => ?_))) (fun c54 => (FM_shorts_57 (fun _ => (FM_shorts_78 (FM_shorts_79 (FM_shorts_81 (Nat.le_of_ble_eq_true rfl) (FM_refused_c (FM_shorts_84 ?_)))))) (fun z => absurd z (by decide))))))))))))))
    · rw [if_pos ⟨c54.1, c54.2⟩] at k
      rw [eln, show (1 : Int32) = nI 1 from rfl] at c54
      obtain ⟨I, rfl, hI⟩ := span_n ln40 (by omega) c54
      rw [nI_clamp (by omega), Nat.mul_comm] at k
      refine (FM_shorts_60 (FM_shorts_61 (FM_shorts_62 (FM_shorts_65 (FM_shorts_67 (FM_shorts_68 (FM_shorts_69 (FM_shorts_70 (FM_shorts_71n (nI_addE (nI_mulE (show (40 : Int32) = nI 40 from rfl) (by first | assumption | exact rfl)) (by first | assumption | exact rfl)) (by omega) (FM_shorts_72 (Nat.le_of_ble_eq_true rfl) (FM_done_c (FM_shorts_75 (FM_shorts_84 ?_)))))))))))))
      exact k
    · rw [if_neg (fun z => c54 ⟨z.1, z.2⟩)] at k
      exact k
  refine (FM_shorts_0 (FM_shorts_1 (FM_shorts_4 (FM_shorts_5n (by first | assumption | exact rfl) (by omega) (FM_shorts_6 (FM_shorts_7 (fun c7 => (FM_shorts_27 (FM_shorts_28 (FM_shorts_31 (FM_shorts_32n (by first | assumption | exact rfl) (by omega) (FM_shorts_33 (FM_shorts_34 (fun c34 => ?_) (fun c34 => (FM_shorts_37 (FM_shorts_38 (FM_shorts_40 (Nat.le_of_ble_eq_true rfl) (FM_refused_c (FM_shorts_43 ?_))))))))))))) (fun c7 => (FM_shorts_10 (FM_shorts_11 (FM_shorts_14 (FM_shorts_15n (by first | assumption | exact rfl) (by omega) (FM_shorts_16 (FM_shorts_17 (fun c17 => (FM_shorts_27 (FM_shorts_28 (FM_shorts_31 (FM_shorts_32n (by first | assumption | exact rfl) (by omega) (FM_shorts_33 (FM_shorts_34 (fun c34 => ?_) (fun c34 => (FM_shorts_37 (FM_shorts_38 (FM_shorts_40 (Nat.le_of_ble_eq_true rfl) (FM_refused_c (FM_shorts_43 ?_))))))))))))) (fun c17 => (FM_shorts_20 (FM_shorts_21 (FM_shorts_23 (Nat.le_of_ble_eq_true rfl) (FM_refused_c (FM_shorts_26 ?_)))))))))))))))))))
  · exact absurd c7 c34
  · rw [if_pos c7] at k; exact k
  · exact sec c7 c17
  · exact absurd c34 c7
  · rw [if_neg c7, if_neg c17] at k; exact k
theorem Sh_sum_l {N : Nat} (hs : s < 4) (hN : N ≤ 39) (k : Q (csu (h.1 56) (s * 40 + 1) N) h) : ∀ (m i : Nat), i + m = N → E X (d + 1) Sh_sum 6 [.ref 53, .int (nI s), .int 1, .int (nI N), .int (csu (h.1 56) (s * 40 + 1) i), .int (nI (1 + i))] [] h Q := by
  have e1 : (1 : Int32) + nI N = nI (1 + N) := nI_add 1 N
  intro m
  induction m with
  | zero =>
    intro i hi
    obtain rfl : i = N := by omega
    refine (Sh_sum_6 (Sh_sum_8 (Sh_sum_9 (Sh_sum_10 (Sh_sum_11 (fun c11 => (Sh_sum_32 (Sh_sum_34 ?_))) (fun c11 => ?_))))))
    · exact k
    · rw [e1] at c11; exact absurd (Int32.le_refl _) c11
  | succ m ih =>
    intro i hi
    refine (Sh_sum_6 (Sh_sum_8 (Sh_sum_9 (Sh_sum_10 (Sh_sum_11 (fun c11 => (Sh_sum_32 (Sh_sum_34 ?_))) (fun c11 => (Sh_sum_14 (Sh_sum_16 (Sh_sum_17 (Sh_sum_18 (Sh_sum_20 (Nat.le_of_ble_eq_true rfl) (Sh_get_c (by first | assumption | exact rfl) (by first | assumption | exact rfl) (by omega) (by omega) (Sh_sum_23 (Sh_sum_24 (Sh_sum_26 (Sh_sum_29 ?_))))))))))))))))
    · rw [e1] at c11; exact absurd ((leN rfl rfl (by omega) (by omega)).mp c11) (by omega)
    · rw [nI_1, ← Nat.add_assoc (s * 40) 1 i]
      exact ih (i + 1) (by omega)
theorem FC_forgeCopy_c (hh : iSheet h) (hs : s < 4) (hn : inI n (-100) 100) (k : Q (r3 (h.1 104) (h.1 105) (h.1 106) s n).1 (pI h 0 8 (r3 (h.1 104) (h.1 105) (h.1 106) s n).2)) : E X (d + 3) FC_forgeCopy 0 [.ref 0, .int n, .int (nI s), U0] [] h Q := by
  obtain ⟨x1, x2, ⟨ln, -, ln40, eln⟩, x4⟩ := hh.1 s hs
  have n100 := hn.2
  unfold r3 at k
  refine (FC_forgeCopy_0 (FC_forgeCopy_1 (FC_forgeCopy_4 (FC_forgeCopy_5 (FC_forgeCopy_6 (Nat.le_of_ble_eq_true rfl) ?_)))))
  refine Sh_faultAs_c (s0 := s) hs rfl (fun g => ?_) (fun g1 g2 => ?_) (fun g1 g2 => ?_)
  · rw [x1] at g; rw [if_pos g] at k
    refine (FC_forgeCopy_9 (FC_forgeCopy_10 (FC_forgeCopy_11 (fun z => absurd z (by decide)) (fun _ => (FC_forgeCopy_14 (FC_forgeCopy_15 (FC_forgeCopy_16 (Nat.le_of_ble_eq_true rfl) (FC_refuse_c (FC_forgeCopy_19 ?_)))))))))
    exact k
  · rw [x1] at g1 g2; rw [if_neg g1, if_neg g2] at k
    refine (FC_forgeCopy_9 (FC_forgeCopy_10 (FC_forgeCopy_11 (fun z => absurd z (by decide)) (fun _ => (FC_forgeCopy_14 (FC_forgeCopy_15 (FC_forgeCopy_16 (Nat.le_of_ble_eq_true rfl) (FC_refuse_c (FC_forgeCopy_19 ?_)))))))))
    exact k
  · rw [x1] at g1 g2; rw [if_neg g1, if_pos g2] at k
    refine (FC_forgeCopy_9 (FC_forgeCopy_10 (FC_forgeCopy_11 (fun _ => (FC_forgeCopy_20 (FC_forgeCopy_21 (fun c21 => (FC_forgeCopy_45 (FC_forgeCopy_46 (FC_forgeCopy_48 (Nat.le_of_ble_eq_true rfl) (FC_refuse_c (FC_forgeCopy_51 ?_)))))) (fun c21 => (FC_forgeCopy_24 (FC_forgeCopy_25 (FC_forgeCopy_28 (FC_forgeCopy_29 (FC_forgeCopy_30 (FC_forgeCopy_31 (Nat.le_of_ble_eq_true rfl) (Sh_spans_c (by first | assumption | exact rfl) (by omega) (fun c31 => (FC_forgeCopy_34 (fun z => absurd z (by decide)) (fun _ => (FC_forgeCopy_37 (FC_forgeCopy_38 (FC_forgeCopy_39 (FC_forgeCopy_40 (FC_forgeCopy_42 (fun c42 => (FC_forgeCopy_52 (FC_forgeCopy_53 (FC_forgeCopy_54 (FC_forgeCopy_57 (FC_forgeCopy_58 (FC_forgeCopy_59 (FC_forgeCopy_60 (Nat.le_of_ble_eq_true rfl) ?_)))))))) (fun c42 => (FC_forgeCopy_45 (FC_forgeCopy_46 (FC_forgeCopy_48 (Nat.le_of_ble_eq_true rfl) (FC_refuse_c (FC_forgeCopy_51 ?_)))))))))))))) (fun c31 => (FC_forgeCopy_34 (fun _ => (FC_forgeCopy_45 (FC_forgeCopy_46 (FC_forgeCopy_48 (Nat.le_of_ble_eq_true rfl) (FC_refuse_c (FC_forgeCopy_51 ?_)))))) (fun z => absurd z (by decide))))))))))))))) (fun z => absurd z (by decide)))))
    · rw [if_neg (fun z => Int32.not_le.mpr c21 z.1)] at k
      exact k
    · have n0 : 0 ≤ n := Int32.not_lt.mp c21
      obtain ⟨N, -, N100, rfl⟩ := (isN_of (l := 0) (m := 100) rfl rfl (by omega) (by omega)).mp ⟨n0, n100⟩
      rw [x4, eln, show (1 : Int32) = nI 1 from rfl] at c31
      obtain ⟨I, eI, hI⟩ := span_n ln40 (by omega) c31
      have := nI_inj eI (by omega) (by omega)
      have e1 : nI N + 1 = nI (N + 1) := nI_1 N
      rw [if_pos ⟨n0, by rw [e1, eln]; exact (leN rfl rfl (by omega) (by omega)).mpr (by omega), c42⟩] at k
      have eN : nI N + nI N = nI (N + N) := nI_add N N
      have N3 : N + N ≤ 6 := (leN eN (show (6 : Int32) = nI 6 from rfl) (by omega) (by omega)).mp c42
      refine (Sh_sum_0 (Sh_sum_1 (Sh_sum_3 (Sh_sum_4 ?_))))
      refine Sh_sum_l (N := N) hs (by omega) ?_ N 0 (by omega)
      refine (FC_forgeCopy_63 (Nat.le_of_ble_eq_true rfl) (FC_done_c (FC_forgeCopy_66 ?_)))
      rw [nI_clamp (by omega)] at k
      rw [csu_cg (ce' := h.1 106) N (fun k hk => hh.2 _ (by omega))]
      exact k
    · rw [if_neg (fun z => c42 z.2.2)] at k
      exact k
    · rw [if_neg (fun z => c31 ?_)] at k
      · exact k
      · obtain ⟨N, -, N100, rfl⟩ := (isN_of (l := 0) (m := 100) rfl rfl (by omega) (by omega)).mp ⟨z.1, n100⟩
        have e1 : nI N + 1 = nI (N + 1) := nI_1 N
        have z2 := z.2.1
        rw [e1, eln] at z2
        have := (leN rfl rfl (by omega) (by omega)).mp z2
        rw [x4, eln]
        exact n_span (I := 1) ln40 N100 (by omega)
theorem FM_copied_l {N : Nat} (hs : s < 4) (hN : N ≤ 39) (k : Q (csu (h.1 106) (s * 40 + 1) N) (pI h 57 0 0)) : ∀ (m i : Nat), i + m = N → E X (d + 1) FM_copied 79 [.ref 57, .int (nI N), .int (nI s), .int (csu (h.1 106) (s * 40 + 1) i), .int (nI i)] [] h Q := by
  intro m
  induction m with
  | zero =>
    intro i hi
    obtain rfl : i = N := by omega
    refine (FM_copied_79 (FM_copied_81 (FM_copied_82 (fun c82 => (FM_copied_108 (FM_copied_109 (FM_copied_110 (Nat.le_of_ble_eq_true rfl) (FM_done_c (FM_copied_113 ?_)))))) (fun c82 => ?_))))
    · exact k
    · exact absurd (Int32.le_refl _) c82
  | succ m ih =>
    intro i hi
    refine (FM_copied_79 (FM_copied_81 (FM_copied_82 (fun c82 => (FM_copied_108 (FM_copied_109 (FM_copied_110 (Nat.le_of_ble_eq_true rfl) (FM_done_c (FM_copied_113 ?_)))))) (fun c82 => (FM_copied_85 (FM_copied_86 (FM_copied_87 (FM_copied_90 (FM_copied_92 (FM_copied_93 (FM_copied_94 (FM_copied_95 (FM_copied_96 (FM_copied_98 (FM_copied_99n (nI_addE (nI_addE (nI_mulE (show (40 : Int32) = nI 40 from rfl) (by first | assumption | exact rfl)) (show (1 : Int32) = nI 1 from rfl)) (by first | assumption | exact rfl)) (by omega) (FM_copied_100 (FM_copied_101 (FM_copied_102 (FM_copied_105 ?_)))))))))))))))))))
    · exact absurd ((leN rfl rfl (by omega) (by omega)).mp c82) (by omega)
    · rw [nI_1, Nat.mul_comm 40 s]
      exact ih (i + 1) (by omega)
theorem FM_copied_c (hh : iSheet h) (hs : s < 4) (hn : inI n (-100) 100) (k : Q (r3 (h.1 104) (h.1 105) (h.1 106) s n).1 (pI h 57 0 (r3 (h.1 104) (h.1 105) (h.1 106) s n).2)) : E X (d + 3) FM_copied 0 [.ref 57, .int n, .int (nI s), U0, U0] [] h Q := by
  obtain ⟨x1, x2, ⟨ln, -, ln40, eln⟩, x4⟩ := hh.1 s hs
  have n100 := hn.2
  have n0' : (0 : Int32) ≠ -1 := by decide
  unfold r3 at k
  have sec : ∀ g1 : ¬ h.1 104 s = -1, h.1 104 s = 0 → E X (d + 3) FM_copied 43 [.ref 57, .int n, .int (nI s), U0, U0] [] h Q := fun g1 g2 => by
    rw [if_neg g1, if_pos g2] at k
    have e2 : (2 : Int32) * n = n + n := by
      apply Int32.toBitVec_inj.mp
      rw [Int32.toBitVec_mul, Int32.toBitVec_add]
      show (2#32) * n.toBitVec = _
      rw [BitVec.mul_comm, BitVec.mul_two]
    refine (FM_copied_43 (FM_copied_44 (fun c44 => (FM_copied_67 (FM_copied_68 (FM_copied_70 (Nat.le_of_ble_eq_true rfl) (FM_refused_c (FM_copied_73 ?_)))))) (fun c44 => (FM_copied_47 (FM_copied_48 (FM_copied_49 (FM_copied_50 (FM_copied_51 (FM_copied_54 (FM_copied_55n (by first | assumption | exact rfl) (by omega) (FM_copied_56 (fun c56 => (FM_copied_67 (FM_copied_68 (FM_copied_70 (Nat.le_of_ble_eq_true rfl) (FM_refused_c (FM_copied_73 ?_)))))) (fun c56 => (FM_copied_59 (FM_copied_60 (FM_copied_61 (FM_copied_62 (FM_copied_64 (fun c64 => ?_) (fun c64 => (FM_copied_67 (FM_copied_68 (FM_copied_70 (Nat.le_of_ble_eq_true rfl) (FM_refused_c (FM_copied_73 ?_)))))))))))))))))))))))
    · rw [if_neg (fun z => Int32.not_le.mpr c44 z.1)] at k
      exact k
    · rw [if_neg (fun z => Int32.not_le.mpr c56 z.2.1)] at k
      exact k
    · rw [e2] at c64
      have n0 : 0 ≤ n := Int32.not_lt.mp c44
      rw [if_pos ⟨n0, Int32.not_lt.mp c56, c64⟩] at k
      obtain ⟨N, -, N100, rfl⟩ := (isN_of (l := 0) (m := 100) rfl rfl (by omega) (by omega)).mp ⟨n0, n100⟩
      have eN : nI N + nI N = nI (N + N) := nI_add N N
      have N3 : N + N ≤ 6 := (leN eN (show (6 : Int32) = nI 6 from rfl) (by omega) (by omega)).mp c64
      rw [nI_clamp (by omega)] at k
      refine (FM_copied_74 (FM_copied_75 (FM_copied_76 (FM_copied_77 ?_))))
      exact FM_copied_l hs (by omega) k N 0 (by omega)
    · rw [e2] at c64
      rw [if_neg (fun z => c64 z.2.2)] at k
      exact k
  refine (FM_copied_0 (FM_copied_1 (FM_copied_4 (FM_copied_5n (by first | assumption | exact rfl) (by omega) (FM_copied_6 (FM_copied_7 (fun c7 => (FM_copied_26 (FM_copied_27 (FM_copied_30 (FM_copied_31n (by first | assumption | exact rfl) (by omega) (FM_copied_32 (FM_copied_33 (fun c33 => ?_) (fun c33 => (FM_copied_36 (FM_copied_37 (FM_copied_39 (Nat.le_of_ble_eq_true rfl) (FM_refused_c (FM_copied_42 ?_))))))))))))) (fun c7 => (FM_copied_10 (FM_copied_11 (FM_copied_14 (FM_copied_15n (by first | assumption | exact rfl) (by omega) (FM_copied_16 (fun c16 => (FM_copied_26 (FM_copied_27 (FM_copied_30 (FM_copied_31n (by first | assumption | exact rfl) (by omega) (FM_copied_32 (FM_copied_33 (fun c33 => ?_) (fun c33 => (FM_copied_36 (FM_copied_37 (FM_copied_39 (Nat.le_of_ble_eq_true rfl) (FM_refused_c (FM_copied_42 ?_))))))))))))) (fun c16 => (FM_copied_19 (FM_copied_20 (FM_copied_22 (Nat.le_of_ble_eq_true rfl) (FM_refused_c (FM_copied_25 ?_))))))))))))))))))
  · exact absurd c7 c33
  · rw [if_pos c7] at k; exact k
  · exact sec c7 c16
  · exact absurd c33 c7
  · rw [if_neg c7, if_neg c16] at k; exact k
end FF
section PFO
variable {X : SX} {d j L q s D w S W K : Nat} {h : HH} {Q : Int32 → HH → Prop} {x n y a b c : Int32}
theorem FM_forge_in (ha : inI a 0 6) (hb : inI b (-100) 100) (hc : inI c (-100) 100) (k : E X (d + 4) FM_forge 46 [.ref 57, .int a, .int b, .int c, .int (moV c 12)] [] h Q) : E X (d + 4) FM_forge 0 [.ref 57, .int a, .int b, .int c, U0] [] h Q := by
  refine (FM_forge_0 (FM_forge_1 (FM_forge_2 (FM_forge_4 (Nat.le_of_ble_eq_true rfl) (FM_in_c (fun c4 => (FM_forge_7 (fun z => absurd z (by decide)) (fun _ => (FM_forge_10 (FM_forge_11 (FM_forge_13 (FM_forge_15 (Nat.le_of_ble_eq_true rfl) (FM_in_c (fun c15 => (FM_forge_18 (fun z => absurd z (by decide)) (fun _ => (FM_forge_21 (FM_forge_22 (FM_forge_24 (FM_forge_26 (Nat.le_of_ble_eq_true rfl) (FM_in_c (fun c26 => (FM_forge_29 (fun _ => (FM_forge_38 (FM_forge_39 (FM_forge_41 (Nat.le_of_ble_eq_true rfl) ?_)))) (fun z => absurd z (by decide)))) (fun c26 => (FM_forge_29 (fun z => absurd z (by decide)) (fun _ => (FM_forge_32 (FM_forge_33 (FM_forge_34 (Nat.le_of_ble_eq_true rfl) (FM_refused_c (FM_forge_37 ?_)))))))))))))))) (fun c15 => (FM_forge_18 (fun _ => (FM_forge_32 (FM_forge_33 (FM_forge_34 (Nat.le_of_ble_eq_true rfl) (FM_refused_c (FM_forge_37 ?_)))))) (fun z => absurd z (by decide)))))))))))) (fun c4 => (FM_forge_7 (fun _ => (FM_forge_32 (FM_forge_33 (FM_forge_34 (Nat.le_of_ble_eq_true rfl) (FM_refused_c (FM_forge_37 ?_)))))) (fun z => absurd z (by decide)))))))))
  · refine FM_modulo_c (by decide) ?_
    refine (FM_forge_44 ?_)
    exact k
  · exact absurd hc c26
  · exact absurd hb c15
  · exact absurd ha c4
theorem FM_forge_bad (hA : ¬ (inI a 0 6 ∧ inI b (-100) 100 ∧ inI c (-100) 100)) (k : Q (-1) (pI h 57 0 1)) : E X (d + 4) FM_forge 0 [.ref 57, .int a, .int b, .int c, U0] [] h Q := by
  refine (FM_forge_0 (FM_forge_1 (FM_forge_2 (FM_forge_4 (Nat.le_of_ble_eq_true rfl) (FM_in_c (fun c4 => (FM_forge_7 (fun z => absurd z (by decide)) (fun _ => (FM_forge_10 (FM_forge_11 (FM_forge_13 (FM_forge_15 (Nat.le_of_ble_eq_true rfl) (FM_in_c (fun c15 => (FM_forge_18 (fun z => absurd z (by decide)) (fun _ => (FM_forge_21 (FM_forge_22 (FM_forge_24 (FM_forge_26 (Nat.le_of_ble_eq_true rfl) (FM_in_c (fun c26 => (FM_forge_29 (fun _ => (FM_forge_38 (FM_forge_39 (FM_forge_41 (Nat.le_of_ble_eq_true rfl) ?_)))) (fun z => absurd z (by decide)))) (fun c26 => (FM_forge_29 (fun z => absurd z (by decide)) (fun _ => (FM_forge_32 (FM_forge_33 (FM_forge_34 (Nat.le_of_ble_eq_true rfl) (FM_refused_c (FM_forge_37 ?_)))))))))))))))) (fun c15 => (FM_forge_18 (fun _ => (FM_forge_32 (FM_forge_33 (FM_forge_34 (Nat.le_of_ble_eq_true rfl) (FM_refused_c (FM_forge_37 ?_)))))) (fun z => absurd z (by decide)))))))))))) (fun c4 => (FM_forge_7 (fun _ => (FM_forge_32 (FM_forge_33 (FM_forge_34 (Nat.le_of_ble_eq_true rfl) (FM_refused_c (FM_forge_37 ?_)))))) (fun z => absurd z (by decide)))))))))
  · exact absurd ⟨c4, c15, c26⟩ hA
  all_goals exact k
set_option maxHeartbeats 2000000 in
theorem pp_forge : PP_forge := by
  intro X h a b c hi
  obtain ⟨D, w, S, L, W, K, ⟨hm1, bk, hb, hb1, hb2⟩, hc, hl, hs, hn, hw, hk, ha, hx, hh, hp⟩ := id hi
  obtain ⟨hD6, hw60, hD, hD', hwk, hwk', hwg, hwg', hpd, hln, her, hS, hL, hW, hK⟩ := id hc
  have hn8 : iLines (pI h 0 8 0) 9 L 79 → True := fun _ => trivial
  have hhv : ∀ v, iSheet (pI h 0 8 v) := fun v => iSheet_cg (by simp [pI_r]) hh
  have rr : ∀ v r, r ≠ 0 → (pI h 0 8 v).1 r = h.1 r := fun v r hr => pI_r hr
  refine (FC_forge_0 (FC_forge_1 (FC_forge_3 (FC_forge_5 (Nat.le_of_ble_eq_true rfl) (FC_within_c (fun c5 => (FC_forge_8 (fun z => absurd z (by decide)) (fun _ => (FC_forge_11 (FC_forge_12 (FC_forge_14 (FC_forge_16 (Nat.le_of_ble_eq_true rfl) (FC_within_c (fun c16 => (FC_forge_19 (fun _ => (FC_forge_28 (FC_forge_29 (fun c29 => (FC_forge_72 (FC_forge_73 (FC_forge_74 (FC_forge_76 (Nat.le_of_ble_eq_true rfl) ?_))))) (fun c29 => (FC_forge_89 (FC_forge_90 (fun c90 => (FC_forge_102 (FC_forge_103 (FC_forge_104 (Nat.le_of_ble_eq_true rfl) (FC_done_c (FC_forge_107 ?_)))))) (fun c90 => (FC_forge_93 (FC_forge_94 (FC_forge_96 (Nat.le_of_ble_eq_true rfl) (FC_refuse_c (FC_forge_99 (FC_forge_107 ?_)))))))))) (fun c29 => (FC_forge_108 (FC_forge_109 (FC_forge_110 (FC_forge_111 (FC_forge_112 (Nat.le_of_ble_eq_true rfl) ?_)))))) (fun c29 => (FC_forge_119 (FC_forge_120 (FC_forge_121 (FC_forge_122 (FC_forge_123 (Nat.le_of_ble_eq_true rfl) ?_)))))) (fun c29 => (FC_forge_130 (FC_forge_131 (FC_forge_132 (FC_forge_134 (Nat.le_of_ble_eq_true rfl) ?_))))) (fun c29 => (FC_forge_141 (FC_forge_142 (fun c142 => (FC_forge_154 (FC_forge_155 (FC_forge_158 (FC_forge_159 ?_ (FC_forge_160 (Nat.le_of_ble_eq_true rfl) (FC_done_c (FC_forge_163 ?_)))))))) (fun c142 => (FC_forge_145 (FC_forge_146 (FC_forge_148 (Nat.le_of_ble_eq_true rfl) (FC_refuse_c (FC_forge_151 (FC_forge_163 ?_)))))))))) (fun c29 => (FC_forge_164 (FC_forge_165 (FC_forge_166 (Nat.le_of_ble_eq_true rfl) ?_)))) (fun c29 => (FC_forge_187 (FC_forge_188 (FC_forge_189 (Nat.le_of_ble_eq_true rfl) (FC_refuse_c (FC_forge_192 ?_))))))))) (fun z => absurd z (by decide)))) (fun c16 => (FC_forge_19 (fun z => absurd z (by decide)) (fun _ => (FC_forge_22 (FC_forge_23 (FC_forge_24 (Nat.le_of_ble_eq_true rfl) (FC_refuse_c (FC_forge_27 ?_)))))))))))))))) (fun c5 => (FC_forge_8 (fun _ => (FC_forge_22 (FC_forge_23 (FC_forge_24 (Nat.le_of_ble_eq_true rfl) (FC_refuse_c (FC_forge_27 ?_)))))) (fun z => absurd z (by decide)))))))))
  · subst c29
    obtain ⟨q, q6, qe, qm⟩ := fm_6 c5
    obtain ⟨j, j12, je, jm⟩ := fm_12 c16
    refine JM_floorMod_c (by decide) ?_
    refine (FC_forge_79 (FC_forge_80 (FC_forge_82 (Nat.le_of_ble_eq_true rfl) ?_)))
    refine JM_floorMod_c (by decide) ?_
    rw [qe, je]
    refine (FC_forge_85 (Nat.le_of_ble_eq_true rfl) ?_)
    refine FC_forgeKind_c hn j12 q6 ?_
    refine (FC_forge_88 ?_)
    refine FM_forge_in ⟨by decide, by decide⟩ c5 c16 ?_
    rw [jm]
    have mL : (pI h 0 8 (r0 L (h.1 71) q j).2).1 57 21 = nI L := hL
    refine (FM_forge_46 (FM_forge_47 (fun _ => (FM_forge_84 (FM_forge_86 (FM_forge_87 (FM_forge_90 (fun m90 => (FM_forge_102 (FM_forge_103 (FM_forge_104 (FM_forge_107 (FM_forge_109n (by first | assumption | exact rfl) (by omega) (FM_forge_110 (FM_forge_111 (FM_forge_113 (Nat.le_of_ble_eq_true rfl) ?_))))))))) (fun m90 => (FM_forge_93 (FM_forge_94 (FM_forge_96 (Nat.le_of_ble_eq_true rfl) (FM_refused_c (FM_forge_99 (FM_forge_142 ?_)))))))))))) (fun z => absurd z (by decide)) (fun z => absurd z (by decide)) (fun z => absurd z (by decide)) (fun z => absurd z (by decide)) (fun z => absurd z (by decide)) (fun z => absurd z (by decide))))
    · rw [mL] at m90
      have jl : j < L := (ltN rfl rfl (by omega) (by have := hn.1; omega)).mp m90
      obtain ⟨⟨⟨K', -, K5, eK⟩, -⟩, -⟩ := hn.2.2 j jl
      have eK2 : (pI h 0 8 (r0 L (h.1 71) q j).2).1 71 j = nI K' := eK
      refine FM_modulo_c (by decide) ?_
      rw [qm]
      refine (FM_forge_116 (Nat.le_of_ble_eq_true rfl) ?_)
      have er : r0 L (h.1 71) q j = if uB K' q = true then (h.1 71 j, 0) else (-1, 11) := by
        unfold r0; rw [if_pos jl, show (h.1 71 j).toNatClampNeg = K' by rw [eK, nI_clamp (by omega)]]
      refine FM_isUnder_c (K := K') (by omega) q6 eK2 rfl (fun y => ?_) (fun y => ?_)
      · refine (FM_forge_119 (fun z => absurd z (by decide)) (fun _ => (FM_forge_122 (FM_forge_123 (FM_forge_124 (FM_forge_127 (FM_forge_129n (by first | assumption | exact rfl) (by omega) (FM_forge_130 (Nat.le_of_ble_eq_true rfl) (FM_done_c (FM_forge_133 (FM_forge_142 ?_)))))))))))
        rw [er, if_pos y]
        exact ⟨rfl, Inv_refuse hi⟩
      · refine (FM_forge_119 (fun _ => (FM_forge_136 (FM_forge_137 (FM_forge_139 (Nat.le_of_ble_eq_true rfl) (FM_refused_c (FM_forge_142 ?_)))))) (fun z => absurd z (by decide)))
        rw [er, y, if_neg (by decide)]
        exact ⟨rfl, Inv_refuse hi⟩
    · rw [mL] at m90
      have jl : ¬ j < L := fun z => m90 ((ltN rfl rfl (by omega) (by have := hn.1; omega)).mpr z)
      have er : r0 L (h.1 71) q j = (-1, 10) := by unfold r0; rw [if_neg jl]
      rw [er]
      exact ⟨rfl, Inv_refuse hi⟩
  · subst c29
    refine FM_forge_in ⟨by decide, by decide⟩ c5 c16 ?_
    refine (FM_forge_46 (FM_forge_47 (fun z => absurd z (by decide)) (fun _ => (FM_forge_143 (FM_forge_144 (fun m144 => (FM_forge_156 (FM_forge_157 (FM_forge_158 (Nat.le_of_ble_eq_true rfl) (FM_done_c (FM_forge_161 ?_)))))) (fun m144 => (FM_forge_147 (FM_forge_148 (FM_forge_150 (Nat.le_of_ble_eq_true rfl) (FM_refused_c (FM_forge_153 (FM_forge_161 ?_)))))))))) (fun z => absurd z (by decide)) (fun z => absurd z (by decide)) (fun z => absurd z (by decide)) (fun z => absurd z (by decide)) (fun z => absurd z (by decide))))
    · exact ⟨rfl, Inv_refuse hi⟩
    · exact absurd c90 m144
  · subst c29
    refine FM_forge_in ⟨by decide, by decide⟩ c5 c16 ?_
    refine (FM_forge_46 (FM_forge_47 (fun z => absurd z (by decide)) (fun _ => (FM_forge_143 (FM_forge_144 (fun m144 => (FM_forge_156 (FM_forge_157 (FM_forge_158 (Nat.le_of_ble_eq_true rfl) (FM_done_c (FM_forge_161 ?_)))))) (fun m144 => (FM_forge_147 (FM_forge_148 (FM_forge_150 (Nat.le_of_ble_eq_true rfl) (FM_refused_c (FM_forge_153 (FM_forge_161 ?_)))))))))) (fun z => absurd z (by decide)) (fun z => absurd z (by decide)) (fun z => absurd z (by decide)) (fun z => absurd z (by decide)) (fun z => absurd z (by decide))))
    · exact absurd m144 c90
    · exact ⟨rfl, Inv_refuse hi⟩
  · subst c29
    obtain ⟨s, s4, se, sm⟩ := fm_4 c16
    refine JM_floorMod_c (by decide) ?_
    rw [se]
    refine (FC_forge_115 (Nat.le_of_ble_eq_true rfl) ?_)
    refine FC_forgeShort_c hh s4 c5 ?_
    refine (FC_forge_118 ?_)
    refine FM_forge_in ⟨by decide, by decide⟩ c5 c16 ?_
    refine (FM_forge_46 (FM_forge_47 (fun z => absurd z (by decide)) (fun z => absurd z (by decide)) (fun _ => (FM_forge_162 (FM_forge_163 (FM_forge_164 (FM_forge_165 (FM_forge_166 (Nat.le_of_ble_eq_true rfl) ?_)))))) (fun z => absurd z (by decide)) (fun z => absurd z (by decide)) (fun z => absurd z (by decide)) (fun z => absurd z (by decide))))
    refine FM_modulo_c (by decide) ?_
    rw [sm]
    refine (FM_forge_169 (Nat.le_of_ble_eq_true rfl) ?_)
    refine FM_shorts_c (hhv _) s4 ?_
    refine (FM_forge_172 ?_)
    exact ⟨rfl, Inv_refuse hi⟩
  · subst c29
    obtain ⟨s, s4, se, sm⟩ := fm_4 c16
    refine JM_floorMod_c (by decide) ?_
    rw [se]
    refine (FC_forge_126 (Nat.le_of_ble_eq_true rfl) ?_)
    refine FC_forgeCopy_c hh s4 c5 ?_
    refine (FC_forge_129 ?_)
    refine FM_forge_in ⟨by decide, by decide⟩ c5 c16 ?_
    refine (FM_forge_46 (FM_forge_47 (fun z => absurd z (by decide)) (fun z => absurd z (by decide)) (fun z => absurd z (by decide)) (fun _ => (FM_forge_173 (FM_forge_174 (FM_forge_175 (FM_forge_176 (FM_forge_177 (Nat.le_of_ble_eq_true rfl) ?_)))))) (fun z => absurd z (by decide)) (fun z => absurd z (by decide)) (fun z => absurd z (by decide))))
    refine FM_modulo_c (by decide) ?_
    rw [sm]
    refine (FM_forge_180 (Nat.le_of_ble_eq_true rfl) ?_)
    refine FM_copied_c (hhv _) s4 c5 ?_
    refine (FM_forge_183 ?_)
    exact ⟨rfl, Inv_refuse hi⟩
  · subst c29
    obtain ⟨j, j12, je, jm⟩ := fm_12 c16
    refine JM_floorMod_c (by decide) ?_
    rw [je]
    refine (FC_forge_137 (Nat.le_of_ble_eq_true rfl) ?_)
    refine FC_forgeRow_c hn j12 ?_
    refine (FC_forge_140 ?_)
    refine FM_forge_in ⟨by decide, by decide⟩ c5 c16 ?_
    rw [jm]
    have mL : (pI h 0 8 (r4 L (h.1 71) j).2).1 57 21 = nI L := hL
    have m71 : (pI h 0 8 (r4 L (h.1 71) j).2).1 71 = h.1 71 := pI_r (by omega)
    refine (FM_forge_46 (FM_forge_47 (fun z => absurd z (by decide)) (fun z => absurd z (by decide)) (fun z => absurd z (by decide)) (fun z => absurd z (by decide)) (fun _ => (FM_forge_184 (FM_forge_186 (FM_forge_187 (FM_forge_190 (fun m190 => (FM_forge_201 (FM_forge_202 (FM_forge_205 (FM_forge_207n (by first | assumption | exact rfl) (by omega) (FM_forge_208 (FM_forge_209 (fun m209 => (FM_forge_223 (FM_forge_224 (FM_forge_225 (FM_forge_228 (FM_forge_230n (by first | assumption | exact rfl) (by omega) (FM_forge_231 (Nat.le_of_ble_eq_true rfl) (FM_done_c (FM_forge_234 (FM_forge_243 ?_)))))))))) (fun m209 => (FM_forge_212 (FM_forge_213 (FM_forge_216 (FM_forge_218n (by first | assumption | exact rfl) (by omega) (FM_forge_219 (FM_forge_220 (fun m220 => (FM_forge_237 (FM_forge_238 (FM_forge_240 (Nat.le_of_ble_eq_true rfl) (FM_refused_c (FM_forge_243 ?_)))))) (fun m220 => (FM_forge_223 (FM_forge_224 (FM_forge_225 (FM_forge_228 (FM_forge_230n (by first | assumption | exact rfl) (by omega) (FM_forge_231 (Nat.le_of_ble_eq_true rfl) (FM_done_c (FM_forge_234 (FM_forge_243 ?_)))))))))))))))))))))))) (fun m190 => (FM_forge_193 (FM_forge_194 (FM_forge_195 (Nat.le_of_ble_eq_true rfl) (FM_done_c (FM_forge_198 (FM_forge_243 ?_)))))))))))) (fun z => absurd z (by decide)) (fun z => absurd z (by decide))))
    · rw [mL] at m190
      have jl : j < L := (ltN rfl rfl (by omega) (by have := hn.1; omega)).mp m190
      rw [m71] at m209
      have er : r4 L (h.1 71) j = (h.1 71 j, 0) := by unfold r4; rw [if_pos jl, if_pos (Or.inl m209)]
      rw [m71, er]
      exact ⟨rfl, Inv_refuse hi⟩
    · rw [mL] at m190
      have jl : j < L := (ltN rfl rfl (by omega) (by have := hn.1; omega)).mp m190
      rw [m71] at m209 m220
      have er : r4 L (h.1 71) j = (-1, 14) := by unfold r4; rw [if_pos jl, if_neg (fun z => z.elim m209 m220)]
      rw [er]
      exact ⟨rfl, Inv_refuse hi⟩
    · rw [mL] at m190
      have jl : j < L := (ltN rfl rfl (by omega) (by have := hn.1; omega)).mp m190
      rw [m71] at m209 m220
      have er : r4 L (h.1 71) j = (h.1 71 j, 0) := by unfold r4; rw [if_pos jl, if_pos (Or.inr m220)]
      rw [m71, er]
      exact ⟨rfl, Inv_refuse hi⟩
    · rw [mL] at m190
      have jl : ¬ j < L := fun z => m190 ((ltN rfl rfl (by omega) (by have := hn.1; omega)).mpr z)
      have er : r4 L (h.1 71) j = (0, 0) := by unfold r4; rw [if_neg jl]
      rw [er]
      exact ⟨rfl, Inv_refuse hi⟩
  · exact c142
  · subst c29
    refine FM_forge_in ⟨by decide, by decide⟩ c5 c16 ?_
    refine (FM_forge_46 (FM_forge_47 (fun z => absurd z (by decide)) (fun z => absurd z (by decide)) (fun z => absurd z (by decide)) (fun z => absurd z (by decide)) (fun z => absurd z (by decide)) (fun _ => (FM_forge_244 (FM_forge_245 (fun m245 => (FM_forge_257 (FM_forge_258 (FM_forge_261 (FM_forge_262 ?_ (FM_forge_263 (Nat.le_of_ble_eq_true rfl) (FM_done_c (FM_forge_266 ?_)))))))) (fun m245 => (FM_forge_248 (FM_forge_249 (FM_forge_251 (Nat.le_of_ble_eq_true rfl) (FM_refused_c (FM_forge_254 (FM_forge_266 ?_)))))))))) (fun z => absurd z (by decide))))
    · exact m245
    · exact ⟨rfl, Inv_refuse hi⟩
    · exact absurd m245 c142
  · subst c29
    refine FM_forge_in ⟨by decide, by decide⟩ c5 c16 ?_
    refine (FM_forge_46 (FM_forge_47 (fun z => absurd z (by decide)) (fun z => absurd z (by decide)) (fun z => absurd z (by decide)) (fun z => absurd z (by decide)) (fun z => absurd z (by decide)) (fun _ => (FM_forge_244 (FM_forge_245 (fun m245 => (FM_forge_257 (FM_forge_258 (FM_forge_261 (FM_forge_262 ?_ (FM_forge_263 (Nat.le_of_ble_eq_true rfl) (FM_done_c (FM_forge_266 ?_)))))))) (fun m245 => (FM_forge_248 (FM_forge_249 (FM_forge_251 (Nat.le_of_ble_eq_true rfl) (FM_refused_c (FM_forge_254 (FM_forge_266 ?_)))))))))) (fun z => absurd z (by decide))))
    · exact m245
    · exact absurd c142 m245
    · exact ⟨rfl, Inv_refuse hi⟩
  · subst c29
    obtain ⟨j, j2, je, jm⟩ := fm_2 c5
    refine JM_floorMod_c (by decide) ?_
    rw [je]
    have go : ∀ v k : Int32, (nI j = 0 → v = -1 ∧ k = 10) → (¬ nI j = 0 → v = 1 ∧ k = 0) → E X 59 FM_forge 0 [.ref 57, .int 6, .int b, .int c, U0] [] (pI h 0 8 k) (fun r2 h2 => v = r2 ∧ Inv h2) := fun v k g1 g2 => by
      refine FM_forge_in ⟨by decide, by decide⟩ c5 c16 ?_
      refine (FM_forge_46 (FM_forge_47 (fun z => absurd z (by decide)) (fun z => absurd z (by decide)) (fun z => absurd z (by decide)) (fun z => absurd z (by decide)) (fun z => absurd z (by decide)) (fun z => absurd z (by decide)) (fun _ => (FM_forge_267 (FM_forge_268 (FM_forge_269 (Nat.le_of_ble_eq_true rfl) ?_))))))
      refine FM_modulo_c (by decide) ?_
      rw [jm]
      refine (FM_forge_272 (fun m272 => (FM_forge_284 (FM_forge_285 (FM_forge_286 (Nat.le_of_ble_eq_true rfl) (FM_done_c (FM_forge_289 ?_)))))) (fun m272 => (FM_forge_275 (FM_forge_276 (FM_forge_278 (Nat.le_of_ble_eq_true rfl) (FM_refused_c (FM_forge_281 (FM_forge_289 ?_))))))))
      · obtain ⟨e1, e2⟩ := g2 m272
        subst e1; subst e2
        exact ⟨rfl, Inv_refuse hi⟩
      · obtain ⟨e1, e2⟩ := g1 m272
        subst e1; subst e2
        exact ⟨rfl, Inv_refuse hi⟩
    refine (FC_forge_169 (fun c169 => (FC_forge_181 (FC_forge_182 (FC_forge_183 (Nat.le_of_ble_eq_true rfl) (FC_done_c (FC_forge_186 ?_)))))) (fun c169 => (FC_forge_172 (FC_forge_173 (FC_forge_175 (Nat.le_of_ble_eq_true rfl) (FC_refuse_c (FC_forge_178 (FC_forge_186 ?_))))))))
    · exact go _ _ (fun z => absurd z c169) (fun _ => ⟨rfl, rfl⟩)
    · exact go _ _ (fun _ => ⟨rfl, rfl⟩) (fun z => absurd c169 z)
  · refine FM_forge_bad (fun z => ?_) ⟨rfl, Inv_refuse hi⟩
    obtain ⟨i, -, i6, rfl⟩ := (isN_of (l := 0) (m := 6) rfl rfl (by omega) (by omega)).mp z.1
    rw [nI_toInt (by omega)] at c29
    omega
  · exact FM_forge_bad (fun z => c16 z.2.2) ⟨rfl, Inv_refuse hi⟩
  · exact FM_forge_bad (fun z => c5 z.2.1) ⟨rfl, Inv_refuse hi⟩
end PFO
