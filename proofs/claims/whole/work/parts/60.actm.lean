def apM (h : HH) (r : Nat) : List Int32 → HH
  | [] => h
  | b :: bs => apM (pI (pI h 103 r b) 57 59 (nI (r + 1))) (r + 1) bs
theorem apM_app {l1 l2 : List Int32} : ∀ (h : HH) (r : Nat), apM h r (l1 ++ l2) = apM (apM h r l1) (r + l1.length) l2 := by
  induction l1 with
  | nil => intro h r; rfl
  | cons b bs ih =>
    intro h r
    show apM _ _ (bs ++ l2) = _
    rw [ih, show r + (b :: bs).length = r + 1 + bs.length by simp; omega]; rfl
def bS (h : HH) (r l K : Nat) (t p : Int32) : Prop := h.1 57 59 = nI r ∧ h.1 71 l = nI K ∧ h.1 75 l = t ∧ h.1 73 l = p
theorem bS_s {h : HH} {r l K : Nat} {t p b : Int32} (H : bS h r l K t p) : bS (pI (pI h 103 r b) 57 59 (nI (r + 1))) (r + 1) l K t p := by
  obtain ⟨h1, h2, h3, h4⟩ := H
  exact ⟨by simp [pI1], by simp [pI1, h2], by simp [pI1, h3], by simp [pI1, h4]⟩
theorem bS_ap {l K : Nat} {t p : Int32} : ∀ (L : List Int32) (h : HH) (r : Nat), bS h r l K t p → bS (apM h r L) (r + L.length) l K t p
  | [], _, _, H => H
  | b :: bs, h, r, H => by
    show bS (apM _ _ bs) _ _ _ _ _
    rw [show r + (b :: bs).length = r + 1 + bs.length by simp; omega]
    exact bS_ap bs _ _ (bS_s H)
section AM
variable {X : SX} {d r K l : Nat} {h : HH} {Q : Int32 → HH → Prop} {n t p x y : Int32}
theorem FM_ran_c {b : Int32} (hr : h.1 57 59 = nI r) (h50 : r < 50) (k : Q 0 (pI (pI h 103 r b) 57 59 (nI (r + 1)))) : E X d FM_ran 0 [.ref 57, .int b] [] h Q := by
  refine (FM_ran_0 (FM_ran_1 (FM_ran_4 (FM_ran_6 (fun c6 => (FM_ran_19 (FM_ran_20 (FM_ran_21 (FM_ran_24 (FM_ran_25 (FM_ran_26 (FM_ran_29 ?_)))))))) (fun c6 => (FM_ran_9 (FM_ran_10 (FM_ran_13 (FM_ran_14 (FM_ran_17 (FM_ran_18n (by repeat (first | assumption | exact rfl | refine fld_pI1 (by decide) ?_ | refine fld_pI2 (by decide) ?_ | refine fld_pI3 ?_ | refine nI_addE ?_ (show (1 : Int32) = nI 1 from rfl))) (by omega) (FM_ran_19 (FM_ran_20 (FM_ran_21 (FM_ran_24 (FM_ran_25 (FM_ran_26 (FM_ran_29 ?_))))))))))))))))))
  · rw [hr] at c6; exact absurd ((leN (show (50 : Int32) = nI 50 from rfl) rfl (by omega) (by omega)).mp c6) (by omega)
  · have e : (pI h 103 r b).1 57 59 + 1 = nI (r + 1) := by rw [pI_r (by omega), hr, nI_1]
    rw [e]
    exact k
theorem FM_open10_c (hs : bS h r l K t p) (hr : r + 1 ≤ 50) (hl : l < 12) (k : Q (x + t) (apM h r [10])) : E X (d + 1) FM_open10 0 [.ref 57, .int (nI l), .int x] [] h Q := by
  refine (FM_open10_0 (FM_open10_1 (FM_open10_3 (Nat.le_of_ble_eq_true rfl) ?_)))
  refine FM_ran_c hs.1 (by omega) ?_
  refine (FM_open10_6 (FM_open10_7 (FM_open10_8 (FM_open10_11 (FM_open10_12n (by first | assumption | exact rfl) (by omega) (FM_open10_13 (FM_open10_14 ?_)))))))
  rw [(bS_s hs).2.2.1]
  exact k
theorem FM_openOf_c (hs : bS h r l K t p) (hr : r + 2 ≤ 50) (hl : l < 12) (hK : K < 6) (k : Q (rO K t x).1 (apM h r (rO K t x).2)) : E X (d + 2) FM_openOf 0 [.ref 57, .int (nI l), .int x] [] h Q := by
  have q2 : h.1 71 l = 2 ↔ K = 2 := eqN hs.2.1 (show (2 : Int32) = nI 2 from rfl) (by omega) (by omega)
  have q4 : h.1 71 l = 4 ↔ K = 4 := eqN hs.2.1 (show (4 : Int32) = nI 4 from rfl) (by omega) (by omega)
  have q5 : h.1 71 l = 5 ↔ K = 5 := eqN hs.2.1 (show (5 : Int32) = nI 5 from rfl) (by omega) (by omega)
  have r51 : K ≠ 2 → K = 4 ∨ K = 5 → E X (d + 2) FM_openOf 45 [.ref 57, .int (nI l), .int x] [] h Q := fun g1 g2 => by
    rw [rO, if_neg g1, if_pos g2] at k
    refine (FM_openOf_45 (FM_openOf_46 (FM_openOf_48 (Nat.le_of_ble_eq_true rfl) ?_)))
    refine FM_ran_c hs.1 (by omega) ?_
    refine (FM_openOf_51 (FM_openOf_52 (FM_openOf_53 (FM_openOf_54 (Nat.le_of_ble_eq_true rfl) ?_))))
    refine FM_open10_c (bS_s hs) (by omega) hl ?_
    refine (FM_openOf_57 (FM_openOf_58 (FM_openOf_59 ?_)))
    exact k
  refine (FM_openOf_0 (FM_openOf_1 (FM_openOf_4 (FM_openOf_5n (by first | assumption | exact rfl) (by omega) (FM_openOf_6 (FM_openOf_7 (fun c7 => (FM_openOf_25 (FM_openOf_26 (FM_openOf_29 (FM_openOf_30n (by first | assumption | exact rfl) (by omega) (FM_openOf_31 (FM_openOf_32 (fun c32 => ?_) (fun c32 => (FM_openOf_35 (FM_openOf_36 (FM_openOf_39 (FM_openOf_40n (by first | assumption | exact rfl) (by omega) (FM_openOf_41 (FM_openOf_42 (fun c42 => ?_) (fun c42 => ?_))))))))))))))) (fun c7 => ?_)))))))
  · exact r51 (fun z => c7 (q2.mpr z)) (Or.inl (q4.mp c32))
  · rw [rO, if_neg (fun z => c7 (q2.mpr z)), if_neg (fun z => z.elim (fun z => c32 (q4.mpr z)) (fun z => c42 (q5.mpr z)))] at k
    refine (FM_openOf_60 (FM_openOf_61 (FM_openOf_62 (FM_openOf_63 (Nat.le_of_ble_eq_true rfl) ?_))))
    refine FM_open10_c hs (by omega) hl ?_
    refine (FM_openOf_66 ?_)
    exact k
  · exact r51 (fun z => c7 (q2.mpr z)) (Or.inr (q5.mp c42))
  · rw [rO, if_pos (q2.mp c7)] at k
    refine (FM_openOf_10 (FM_openOf_11 (FM_openOf_13 (Nat.le_of_ble_eq_true rfl) ?_)))
    refine FM_ran_c hs.1 (by omega) ?_
    refine (FM_openOf_16 (FM_openOf_17 (FM_openOf_18 (FM_openOf_19 (Nat.le_of_ble_eq_true rfl) ?_))))
    refine FM_open10_c (bS_s hs) (by omega) hl ?_
    refine (FM_openOf_22 (FM_openOf_23 (FM_openOf_24 ?_)))
    exact k
theorem FM_pay11_c (hs : bS h r l K t p) (hr : r + 3 ≤ 50) (hl : l < 12) (hK : K < 6) (k : Q (rP11 K t x).1 (apM h r (rP11 K t x).2)) : E X (d + 3) FM_pay11 0 [.ref 57, .int (nI l), .int x] [] h Q := by
  refine (FM_pay11_0 (FM_pay11_1 (FM_pay11_3 (Nat.le_of_ble_eq_true rfl) ?_)))
  refine FM_ran_c hs.1 (by omega) ?_
  refine (FM_pay11_6 (FM_pay11_7 (FM_pay11_8 (FM_pay11_9 (Nat.le_of_ble_eq_true rfl) ?_))))
  refine FM_openOf_c (bS_s hs) (by omega) hl hK ?_
  refine (FM_pay11_12 (FM_pay11_13 (FM_pay11_14 ?_)))
  exact k
theorem FM_pay20_c (hs : bS h r l K t p) (hr : r + 4 ≤ 50) (hl : l < 12) (hK : K < 6) (k : Q (rP20 K t p x).1 (apM h r (rP20 K t p x).2)) : E X (d + 4) FM_pay20 0 [.ref 57, .int (nI l), .int x] [] h Q := by
  refine (FM_pay20_0 (FM_pay20_1 (FM_pay20_3 (Nat.le_of_ble_eq_true rfl) ?_)))
  refine FM_ran_c hs.1 (by omega) ?_
  refine (FM_pay20_6 (FM_pay20_7 (FM_pay20_8 (FM_pay20_9 (Nat.le_of_ble_eq_true rfl) ?_))))
  refine FM_pay11_c (bS_s hs) (by omega) hl hK ?_
  refine (FM_pay20_12 (FM_pay20_13 (FM_pay20_16 (FM_pay20_17n (by first | assumption | exact rfl) (by omega) (FM_pay20_18 (FM_pay20_19 ?_))))))
  rw [(bS_ap _ _ _ (bS_s hs)).2.2.2]
  exact k
theorem FM_payOf_c (hs : bS h r l K t p) (hr : r + 5 ≤ 50) (hl : l < 12) (hK : K < 6) (k : Q (rP K K (nI l) t p x).1 (apM h r (rP K K (nI l) t p x).2)) : E X (d + 5) FM_payOf 0 [.ref 57, .int (nI l), .int x] [] h Q := by
  have q2 : h.1 71 l = 2 ↔ K = 2 := eqN hs.2.1 (show (2 : Int32) = nI 2 from rfl) (by omega) (by omega)
  have q1 : h.1 71 l = 1 ↔ K = 1 := eqN hs.2.1 (show (1 : Int32) = nI 1 from rfl) (by omega) (by omega)
  refine (FM_payOf_0 (FM_payOf_1 (FM_payOf_4 (FM_payOf_5n (by first | assumption | exact rfl) (by omega) (FM_payOf_6 (FM_payOf_7 (fun c7 => (FM_payOf_25 (FM_payOf_26 (FM_payOf_29 (FM_payOf_30n (by first | assumption | exact rfl) (by omega) (FM_payOf_31 (FM_payOf_32 (fun c32 => (FM_payOf_44 (FM_payOf_45 (FM_payOf_46 (FM_payOf_47 (Nat.le_of_ble_eq_true rfl) ?_))))) (fun c32 => (FM_payOf_35 (FM_payOf_36 (FM_payOf_37 (FM_payOf_38 (Nat.le_of_ble_eq_true rfl) ?_)))))))))))) (fun c7 => (FM_payOf_10 (FM_payOf_11 (FM_payOf_13 (Nat.le_of_ble_eq_true rfl) ?_))))))))))
  · rw [rP, if_neg (fun z => c7 (q2.mpr z)), if_neg (fun z => c32 (q1.mpr z))] at k
    refine FM_pay11_c hs (by omega) hl hK ?_
    refine (FM_payOf_50 ?_)
    exact k
  · rw [rP, if_neg (fun z => c7 (q2.mpr z)), if_pos (q1.mp c32)] at k
    refine FM_pay20_c hs (by omega) hl hK ?_
    refine (FM_payOf_41 (FM_payOf_50 ?_))
    exact k
  · rw [rP, if_pos (q2.mp c7)] at k
    refine FM_ran_c hs.1 (by omega) ?_
    refine (FM_payOf_16 (FM_payOf_17 (FM_payOf_18 (FM_payOf_19 (FM_payOf_20 (FM_payOf_21 (Nat.le_of_ble_eq_true rfl) ?_))))))
    refine FM_pay20_c (bS_s hs) (by omega) hl hK ?_
    refine (FM_payOf_24 ?_)
    exact k
theorem FM_end12_c (hs : bS h r l K t p) (hr : r + 1 ≤ 50) (k : Q (x - nI l) (apM h r [12])) : E X (d + 1) FM_end12 0 [.ref 57, .int (nI l), .int x] [] h Q := by
  refine (FM_end12_0 (FM_end12_1 (FM_end12_3 (Nat.le_of_ble_eq_true rfl) ?_)))
  refine FM_ran_c hs.1 (by omega) ?_
  refine (FM_end12_6 (FM_end12_7 (FM_end12_8 (FM_end12_9 ?_))))
  exact k
theorem FM_end50_c (hs : bS h r l K t p) (hr : r + 2 ≤ 50) (hl : l < 12) (k : Q ((x - nI l) ^^^ p) (apM h r [50, 12])) : E X (d + 2) FM_end50 0 [.ref 57, .int (nI l), .int x] [] h Q := by
  refine (FM_end50_0 (FM_end50_1 (FM_end50_3 (Nat.le_of_ble_eq_true rfl) ?_)))
  refine FM_ran_c hs.1 (by omega) ?_
  refine (FM_end50_6 (FM_end50_7 (FM_end50_8 (FM_end50_9 (Nat.le_of_ble_eq_true rfl) ?_))))
  refine FM_end12_c (bS_s hs) (by omega) ?_
  refine (FM_end50_12 (FM_end50_13 (FM_end50_16 (FM_end50_17n (by first | assumption | exact rfl) (by omega) (FM_end50_18 (FM_end50_19 ?_))))))
  rw [(bS_ap [12] _ _ (bS_s hs)).2.2.2]
  exact k
theorem FM_endOf_c (hs : bS h r l K t p) (hr : r + 4 ≤ 50) (hl : l < 12) (hK : K < 6) (k : Q (rE K K (nI l) t p x).1 (apM h r (rE K K (nI l) t p x).2)) : E X (d + 4) FM_endOf 0 [.ref 57, .int (nI l), .int x, U0] [] h Q := by
  have q3 : h.1 71 l = 3 ↔ K = 3 := eqN hs.2.1 (show (3 : Int32) = nI 3 from rfl) (by omega) (by omega)
  have q4 : h.1 71 l = 4 ↔ K = 4 := eqN hs.2.1 (show (4 : Int32) = nI 4 from rfl) (by omega) (by omega)
  have q5 : h.1 71 l = 5 ↔ K = 5 := eqN hs.2.1 (show (5 : Int32) = nI 5 from rfl) (by omega) (by omega)
  refine (FM_endOf_0 (FM_endOf_1 (FM_endOf_4 (FM_endOf_5n (by first | assumption | exact rfl) (by omega) (FM_endOf_6 (FM_endOf_7 (fun c7 => (FM_endOf_32 (FM_endOf_33 (FM_endOf_36 (FM_endOf_37n (by first | assumption | exact rfl) (by omega) (FM_endOf_38 (FM_endOf_39 (fun c39 => (FM_endOf_57 (FM_endOf_58 (FM_endOf_61 (FM_endOf_62n (by first | assumption | exact rfl) (by omega) (FM_endOf_63 (FM_endOf_64 (fun c64 => (FM_endOf_76 (FM_endOf_77 (FM_endOf_78 (FM_endOf_79 (Nat.le_of_ble_eq_true rfl) ?_))))) (fun c64 => (FM_endOf_67 (FM_endOf_68 (FM_endOf_69 (FM_endOf_70 (Nat.le_of_ble_eq_true rfl) ?_)))))))))))) (fun c39 => (FM_endOf_42 (FM_endOf_43 (FM_endOf_45 (Nat.le_of_ble_eq_true rfl) ?_))))))))))) (fun c7 => (FM_endOf_10 (FM_endOf_11 (FM_endOf_13 (Nat.le_of_ble_eq_true rfl) ?_))))))))))
  · rw [rE, if_neg (fun z => c7 (q3.mpr z)), if_neg (fun z => c39 (q5.mpr z)), if_neg (fun z => c64 (q4.mpr z))] at k
    refine FM_end12_c hs (by omega) ?_
    refine (FM_endOf_82 ?_)
    exact k
  · rw [rE, if_neg (fun z => c7 (q3.mpr z)), if_neg (fun z => c39 (q5.mpr z)), if_pos (q4.mp c64)] at k
    refine FM_end50_c hs (by omega) hl ?_
    refine (FM_endOf_73 (FM_endOf_82 ?_))
    exact k
  · rw [rE, if_neg (fun z => c7 (q3.mpr z)), if_pos (q5.mp c39)] at k
    refine FM_ran_c hs.1 (by omega) ?_
    refine (FM_endOf_48 (FM_endOf_49 (FM_endOf_50 (FM_endOf_51 (FM_endOf_52 (FM_endOf_53 (Nat.le_of_ble_eq_true rfl) ?_))))))
    refine FM_end50_c (bS_s hs) (by omega) hl ?_
    refine (FM_endOf_56 ?_)
    exact k
  · rw [rE, if_pos (q3.mp c7)] at k
    refine FM_ran_c hs.1 (by omega) ?_
    refine (FM_endOf_16 (FM_endOf_17 (FM_endOf_18 (FM_endOf_19 (Nat.le_of_ble_eq_true rfl) ?_))))
    refine FM_end12_c (bS_s hs) (by omega) ?_
    refine (FM_endOf_22 (FM_endOf_23 (FM_endOf_24 (FM_endOf_25 (FM_endOf_26 (FM_endOf_27 (Nat.le_of_ble_eq_true rfl) ?_))))))
    refine FM_openOf_c (bS_ap [12] _ _ (bS_s hs)) (by simp; omega) hl hK ?_
    refine (FM_endOf_30 (FM_endOf_31 ?_))
    exact k
theorem FM_tell13_c (hs : bS h r l K t p) (hr : r + 10 ≤ 50) (hl : l < 12) (hK : K < 6) (k : Q (rT13 K (nI l) t p x).1 (apM h r (rT13 K (nI l) t p x).2)) : E X (d + 6) FM_tell13 0 [.ref 57, .int (nI l), .int x, U0] [] h Q := by
  have l1 := rP_l K K (nI l) t p x
  unfold rT13 at k
  rw [show apM h r (13 :: ((rP K K (nI l) t p x).2 ++ (rE K K (nI l) t p x).2)) = apM (apM h r (13 :: (rP K K (nI l) t p x).2)) (r + (13 :: (rP K K (nI l) t p x).2).length) (rE K K (nI l) t p x).2 from apM_app (l1 := 13 :: (rP K K (nI l) t p x).2) h r, show r + (13 :: (rP K K (nI l) t p x).2).length = r + 1 + (rP K K (nI l) t p x).2.length by simp; omega] at k
  refine (FM_tell13_0 (FM_tell13_1 (FM_tell13_3 (Nat.le_of_ble_eq_true rfl) ?_)))
  refine FM_ran_c hs.1 (by omega) ?_
  refine (FM_tell13_6 (FM_tell13_7 (FM_tell13_8 (FM_tell13_9 (Nat.le_of_ble_eq_true rfl) ?_))))
  refine FM_payOf_c (bS_s hs) (by omega) hl hK ?_
  refine (FM_tell13_12 (FM_tell13_13 (FM_tell13_14 (FM_tell13_15 (FM_tell13_16 (FM_tell13_17 (Nat.le_of_ble_eq_true rfl) ?_))))))
  refine FM_endOf_c (bS_ap _ _ _ (bS_s hs)) (by omega) hl hK ?_
  refine (FM_tell13_20 (FM_tell13_21 ?_))
  exact k
theorem FM_tellOf_c (hs : bS h r l K t p) (hr : r + 15 ≤ 50) (hl : l < 12) (hK : K < 6) (k : Q (rT K K (nI l) t p x).1 (apM h r (rT K K (nI l) t p x).2)) : E X (d + 7) FM_tellOf 0 [.ref 57, .int (nI l), .int x, U0] [] h Q := by
  have q1 : h.1 71 l = 1 ↔ K = 1 := eqN hs.2.1 (show (1 : Int32) = nI 1 from rfl) (by omega) (by omega)
  have q2 : h.1 71 l = 2 ↔ K = 2 := eqN hs.2.1 (show (2 : Int32) = nI 2 from rfl) (by omega) (by omega)
  have q5 : h.1 71 l = 5 ↔ K = 5 := eqN hs.2.1 (show (5 : Int32) = nI 5 from rfl) (by omega) (by omega)
  have r21 : K = 1 ∨ K = 2 → E X (d + 7) FM_tellOf 20 [.ref 57, .int (nI l), .int x, U0] [] h Q := fun g => by
    rw [rT, if_pos g] at k
    refine (FM_tellOf_20 (FM_tellOf_21 (FM_tellOf_23 (Nat.le_of_ble_eq_true rfl) ?_)))
    refine FM_ran_c hs.1 (by omega) ?_
    refine (FM_tellOf_26 (FM_tellOf_27 (FM_tellOf_28 (FM_tellOf_29 (FM_tellOf_30 (FM_tellOf_31 (Nat.le_of_ble_eq_true rfl) ?_))))))
    refine FM_tell13_c (bS_s hs) (by omega) hl hK ?_
    refine (FM_tellOf_34 ?_)
    exact k
  refine (FM_tellOf_0 (FM_tellOf_1 (FM_tellOf_4 (FM_tellOf_5n (by first | assumption | exact rfl) (by omega) (FM_tellOf_6 (FM_tellOf_7 (fun c7 => ?_) (fun c7 => (FM_tellOf_10 (FM_tellOf_11 (FM_tellOf_14 (FM_tellOf_15n (by first | assumption | exact rfl) (by omega) (FM_tellOf_16 (FM_tellOf_17 (fun c17 => (FM_tellOf_35 (FM_tellOf_36 (FM_tellOf_39 (FM_tellOf_40n (by first | assumption | exact rfl) (by omega) (FM_tellOf_41 (FM_tellOf_42 (fun c42 => (FM_tellOf_67 (FM_tellOf_68 (FM_tellOf_69 (FM_tellOf_70 (Nat.le_of_ble_eq_true rfl) ?_))))) (fun c42 => (FM_tellOf_45 (FM_tellOf_46 (FM_tellOf_48 (Nat.le_of_ble_eq_true rfl) ?_))))))))))) (fun c17 => ?_))))))))))))))
  · exact r21 (Or.inl (q1.mp c7))
  · rw [rT, if_neg (fun z => z.elim (fun z => c7 (q1.mpr z)) (fun z => c17 (q2.mpr z))), if_neg (fun z => c42 (q5.mpr z))] at k
    refine FM_tell13_c hs (by omega) hl hK ?_
    refine (FM_tellOf_73 ?_)
    exact k
  · have l1 := rE_l K K (nI l) t p x
    rw [rT, if_neg (fun z => z.elim (fun z => c7 (q1.mpr z)) (fun z => c17 (q2.mpr z))), if_pos (q5.mp c42)] at k
    rw [show apM h r (60 :: ((rE K K (nI l) t p x).2 ++ (rT13 K (nI l) t p x).2)) = apM (apM h r (60 :: (rE K K (nI l) t p x).2)) (r + (60 :: (rE K K (nI l) t p x).2).length) (rT13 K (nI l) t p x).2 from apM_app (l1 := 60 :: (rE K K (nI l) t p x).2) h r, show r + (60 :: (rE K K (nI l) t p x).2).length = r + 1 + (rE K K (nI l) t p x).2.length by simp; omega] at k
    refine FM_ran_c hs.1 (by omega) ?_
    refine (FM_tellOf_51 (FM_tellOf_52 (FM_tellOf_53 (FM_tellOf_54 (Nat.le_of_ble_eq_true rfl) ?_))))
    refine FM_endOf_c (bS_s hs) (by omega) hl hK ?_
    refine (FM_tellOf_57 (FM_tellOf_58 (FM_tellOf_59 (FM_tellOf_60 (FM_tellOf_61 (FM_tellOf_62 (Nat.le_of_ble_eq_true rfl) ?_))))))
    refine FM_tell13_c (bS_ap _ _ _ (bS_s hs)) (by omega) hl hK ?_
    refine (FM_tellOf_65 (FM_tellOf_66 ?_))
    exact k
  · exact r21 (Or.inr (q2.mp c17))
end AM
