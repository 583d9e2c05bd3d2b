section EL
variable {d c : Nat} {s : EC} {g wg kk : Int32}
theorem eA_P {q : Nat} (hq : q < 3) : (eA s d kk wg).1 (d * 15 + (2 + q)) = s.1 (d * 15 + (2 + q)) := by
  have hl : ∀ t : EC, (eLoan t d kk).1 (d * 15 + (2 + q)) = t.1 (d * 15 + (2 + q)) := fun t => by
    unfold eLoan; split
    · exact (up_ne (by omega)).trans (up_ne (by omega))
    · rfl
  have hr : ∀ t : EC, (eRem t d kk).1 (d * 15 + (2 + q)) = t.1 (d * 15 + (2 + q)) := fun t => by
    unfold eRem; split
    · exact up_ne (by omega)
    · rfl
  have hp : ∀ (t : EC) (c : Nat), (ePay t d kk wg c).1 (d * 15 + (2 + q)) = t.1 (d * 15 + (2 + q)) := fun t c => up_ne (by omega)
  unfold eA
  rw [hl, hr, hp, hp, hp]
  exact up_ne (by omega)
theorem eIt_P {q : Nat} (hq : q < 3) (hc : c < 3) (hne : q ≠ c) : (eIt s d c g).1 (d * 15 + (2 + q)) = s.1 (d * 15 + (2 + q)) := by
  simp only [eIt, eSuf, eBuy]
  rw [up_ne (by omega), up_ne (by omega), up_ne (by omega), up_ne (by omega), up_ne (by omega)]
theorem eLive_ok (hk : eOk s d) (hw : isN wg 0 99) : eOk (eLive s d kk wg) d := by
  obtain ⟨⟨a, -, a2, ea⟩, h2, h3⟩ := id hk
  obtain ⟨P0, -, p0, e0⟩ := (h3 0 (by omega)).1
  obtain ⟨P1, -, p1, e1⟩ := (h3 1 (by omega)).1
  obtain ⟨P2, -, p2, e2⟩ := (h3 2 (by omega)).1
  have hg : ∃ g0 : Nat, g0 ≤ P0 ∧ g0 ≤ a ∧ eGiv s d kk = nI g0 := by
    unfold eGiv
    split
    · rw [e0, ea, mn_nI (by omega) (by omega)]
      exact ⟨_, Nat.min_le_left _ _, Nat.min_le_right _ _, rfl⟩
    · exact ⟨0, by omega, by omega, rfl⟩
  obtain ⟨g0, g1, g2, g3⟩ := hg
  have k0 : eOk (eEat s d (nI g0)) d := by
    refine ⟨?_, ?_, fun q hq => ⟨?_, ?_⟩⟩
    all_goals simp only [eEat, eSet]
    · rw [up_at, ea, pk_sub g2]; exact ⟨_, by omega, by omega, rfl⟩
    · rw [up_ne (by omega)]; exact h2
    · rw [up_ne (by omega)]; exact (h3 q hq).1
    · rw [up_ne (by omega)]; exact (h3 q hq).2
  have kA : eOk (eA s d kk wg) d := by
    unfold eA
    rw [g3]
    exact eLoan_ok (eRem_ok (ePay_ok (ePay_ok (ePay_ok k0 hw (by omega)) hw (by omega)) hw (by omega)))
  unfold eLive
  rw [g3]
  have n2 : eNd (eA s d kk wg) d 2 (nI g0) = nI P2 := by
    unfold eNd
    rw [if_neg (by omega), Int32.sub_zero, eA_P (by omega), e2]
  have k2 := eIt_ok kA p2 (c := 2) (g := nI g0) (by omega) ((eA_P (by omega)).trans e2) (Nat.le_refl _) n2
  have q1 : (eIt (eA s d kk wg) d 2 (nI g0)).1 (d * 15 + (2 + 1)) = nI P1 := by rw [eIt_P (by omega) (by omega) (by omega), eA_P (by omega), e1]
  have n1 : eNd (eIt (eA s d kk wg) d 2 (nI g0)) d 1 (nI g0) = nI P1 := by
    unfold eNd
    rw [if_neg (by omega), Int32.sub_zero, q1]
  have k1 := eIt_ok k2 p1 (c := 1) (g := nI g0) (by omega) q1 (Nat.le_refl _) n1
  have q0 : (eIt (eIt (eA s d kk wg) d 2 (nI g0)) d 1 (nI g0)).1 (d * 15 + (2 + 0)) = nI P0 := by rw [eIt_P (by omega) (by omega) (by omega), eIt_P (by omega) (by omega) (by omega), eA_P (by omega), e0]
  have n0 : eNd (eIt (eIt (eA s d kk wg) d 2 (nI g0)) d 1 (nI g0)) d 0 (nI g0) = nI (P0 - g0) := by
    unfold eNd
    rw [if_pos rfl, q0, pk_sub g1]
  exact eIt_ok k1 p0 (c := 0) (g := nI g0) (by omega) q0 (Nat.sub_le _ _) n0
end EL
/-! the model's side -/
def ixM (x y : Nat) : Option Nat :=
  if x = 58 ∧ y < 6 then some (y * 15 + 0) else if x = 59 ∧ y < 6 then some (y * 15 + 1) else if x = 60 ∧ y < 18 then some (y / 3 * 15 + (2 + y % 3)) else if x = 61 ∧ y < 18 then some (y / 3 * 15 + (5 + y % 3)) else
  if x = 62 ∧ y < 6 then some (y * 15 + 8) else if x = 63 ∧ y < 18 then some (y / 3 * 15 + (9 + y % 3)) else if x = 64 ∧ y < 18 then some (y / 3 * 15 + (12 + y % 3)) else none
theorem ixM_inj {x y x' y' j : Nat} (h1 : ixM x y = some j) (h2 : ixM x' y' = some j) : x = x' ∧ y = y' := by
  unfold ixM at h1 h2
  repeat' split at h1
  all_goals simp only [Option.some.injEq, reduceCtorEq] at h1
  all_goals (repeat' split at h2)
  all_goals simp only [Option.some.injEq, reduceCtorEq] at h2
  all_goals omega
def sM (h : HH) (s : EC) : HH := (fun x y => match ixM x y with
  | some i => s.1 i
  | none => if x = 57 ∧ y = 12 then s.2.1 else if x = 57 ∧ y = 13 then s.2.2.1 else if x = 57 ∧ y = 14 then s.2.2.2 else h.1 x y, h.2)
section SM
variable {X : SX} {d D dd c k o : Nat} {h : HH} {Q : Int32 → HH → Prop} {s : EC} {x y z v n wg kk : Int32}
theorem sM_g {i j q : Nat} (e : ixM i j = some q) : (sM h s).1 i j = s.1 q := by simp only [sM, e]
theorem sM_p {i j q : Nat} (e : ixM i j = some q) : pI (sM h s) i j v = sM h (eSet s q v) := by
  refine Prod.ext ?_ rfl
  funext a b
  simp only [pI, sM, eSet, up]
  by_cases z : a = i ∧ b = j
  · rw [if_pos z, z.1, z.2, e]; simp
  · rw [if_neg z]
    cases w : ixM a b with
    | none => rfl
    | some r =>
      have : r ≠ q := fun y => by subst y; exact z (ixM_inj w e)
      simp [this]
theorem ix58 (hd : dd < 6) : ixM 58 dd = some (dd * 15 + 0) := by simp [ixM, hd]
theorem ix59 (hd : dd < 6) : ixM 59 dd = some (dd * 15 + 1) := by simp [ixM, hd]
theorem ix62 (hd : dd < 6) : ixM 62 dd = some (dd * 15 + 8) := by simp [ixM, hd]
theorem d3 (hc : c < 3) : (3 * dd + c) / 3 = dd ∧ (3 * dd + c) % 3 = c := by omega
theorem ix60 (hd : dd < 6) (hc : c < 3) : ixM 60 (3 * dd + c) = some (dd * 15 + (2 + c)) := by simp [ixM, (d3 (dd := dd) hc).1, (d3 (dd := dd) hc).2, show 3 * dd + c < 18 by omega]
theorem ix61 (hd : dd < 6) (hc : c < 3) : ixM 61 (3 * dd + c) = some (dd * 15 + (5 + c)) := by simp [ixM, (d3 (dd := dd) hc).1, (d3 (dd := dd) hc).2, show 3 * dd + c < 18 by omega]
theorem ix63 (hd : dd < 6) (hc : c < 3) : ixM 63 (3 * dd + c) = some (dd * 15 + (9 + c)) := by simp [ixM, (d3 (dd := dd) hc).1, (d3 (dd := dd) hc).2, show 3 * dd + c < 18 by omega]
theorem ix64 (hd : dd < 6) (hc : c < 3) : ixM 64 (3 * dd + c) = some (dd * 15 + (12 + c)) := by simp [ixM, (d3 (dd := dd) hc).1, (d3 (dd := dd) hc).2, show 3 * dd + c < 18 by omega]
theorem ix57 (j : Nat) : ixM 57 j = none := by simp [ixM]
theorem sM_11 : (sM h s).1 57 11 = h.1 57 11 := by simp [sM, ix57]
theorem sM_12 : (sM h s).1 57 12 = s.2.1 := by simp [sM, ix57]
theorem sM_13 : (sM h s).1 57 13 = s.2.2.1 := by simp [sM, ix57]
theorem sM_14 : (sM h s).1 57 14 = s.2.2.2 := by simp [sM, ix57]
theorem sM_p12 : pI (sM h s) 57 12 v = sM h (s.1, v, s.2.2) := by
  refine Prod.ext ?_ rfl
  funext a b
  simp only [pI, sM]
  by_cases z : a = 57
  · subst z
    rw [ix57]
    by_cases e3 : b = 12 <;> simp [e3]
  · cases ixM a b <;> simp [z]
theorem sM_p13 : pI (sM h s) 57 13 v = sM h (s.1, s.2.1, v, s.2.2.2) := by
  refine Prod.ext ?_ rfl
  funext a b
  simp only [pI, sM]
  by_cases z : a = 57
  · subst z
    rw [ix57]
    by_cases e3 : b = 13 <;> simp [e3]
  · cases ixM a b <;> simp [z]
theorem sM_p14 : pI (sM h s) 57 14 v = sM h (s.1, s.2.1, s.2.2.1, v) := by
  refine Prod.ext ?_ rfl
  funext a b
  simp only [pI, sM]
  by_cases z : a = 57
  · subst z
    rw [ix57]
    by_cases e3 : b = 14 <;> simp [e3]
  · cases ixM a b <;> simp [z]
theorem FM_least_s (q : Q (mn x y) h) : E X d FM_least 0 [.ref 57, .int x, .int y] [] h Q := by
  rw [← mn_least] at q
  exact FM_least_c (fun c => by rw [if_pos c] at q; exact q) (fun c => by rw [if_neg c] at q; exact q)
theorem FM_gets_s (e1 : x = nI (3 * dd + c)) (h1 : dd < 6) (hc : c < 3) (q : Q 0 (sM h (eSet s (dd * 15 + (5 + c)) (mn 99999 (s.1 (dd * 15 + (5 + c)) + n))))) : E X d FM_gets 0 [.ref 57, .int x, .int n] [] (sM h s) Q := by
  rw [mn_comm] at q
  unfold mn at q
  refine (FM_gets_0 (FM_gets_1 (FM_gets_4 (FM_gets_5 (FM_gets_6 (FM_gets_9 (FM_gets_10n (by first | assumption | exact rfl) (by omega) (FM_gets_11 (FM_gets_12 (FM_gets_13 (FM_gets_15 (fun c15 => (FM_gets_23 (FM_gets_24 (FM_gets_27 (FM_gets_28n (by first | assumption | exact rfl) (by omega) (FM_gets_29 (FM_gets_30 (FM_gets_31n (by first | assumption | exact rfl) (by omega) (FM_gets_32 ?_))))))))) (fun c15 => (FM_gets_18 (FM_gets_20 (FM_gets_31n (by first | assumption | exact rfl) (by omega) (FM_gets_32 ?_))))))))))))))))
  · rw [sM_g (ix61 h1 hc)] at c15 ⊢
    rw [sM_p (ix61 h1 hc)]
    rw [if_neg (Int32.not_lt.mpr c15)] at q
    exact q
  · rw [sM_g (ix61 h1 hc)] at c15
    rw [sM_p (ix61 h1 hc)]
    rw [if_pos (Int32.not_le.mp c15)] at q
    exact q
theorem bt_g0 (x : Int32) : (x >>> ((0 : Int32) &&& 31)) &&& 1 = 1 ↔ bt x 0 = true := bt_get1 x (k := 0) (by omega)
theorem bt_g1 (x : Int32) : (x >>> ((1 : Int32) &&& 31)) &&& 1 = 1 ↔ bt x 1 = true := bt_get1 x (k := 1) (by omega)
theorem bt_g2 (x : Int32) : (x >>> ((2 : Int32) &&& 31)) &&& 1 = 1 ↔ bt x 2 = true := bt_get1 x (k := 2) (by omega)
theorem bt_g3 (x : Int32) : (x >>> ((3 : Int32) &&& 31)) &&& 1 = 1 ↔ bt x 3 = true := bt_get1 x (k := 3) (by omega)
theorem bt_g4 (x : Int32) : (x >>> ((4 : Int32) &&& 31)) &&& 1 = 1 ↔ bt x 4 = true := bt_get1 x (k := 4) (by omega)
theorem bt_g5 (x : Int32) : (x >>> ((5 : Int32) &&& 31)) &&& 1 = 1 ↔ bt x 5 = true := bt_get1 x (k := 5) (by omega)
theorem FM_pays_i (h1 : dd < 6) (hc : c < 3) (hw : h.1 57 11 = wg) {a4 a5 : Value} (q : ∀ a4 a5 : Value, E X (d + 1) FM_pays 2 [.ref 57, .int (nI dd), .int kk, .int (nI (c + 1)), a4, a5] [] (sM h (ePay s dd kk wg c)) Q) : E X (d + 1) FM_pays 2 [.ref 57, .int (nI dd), .int kk, .int (nI c), a4, a5] [] (sM h s) Q := by
  have nx : ∀ n, n = eN s dd kk wg c → E X (d + 1) FM_pays 103 [.ref 57, .int (nI dd), .int kk, .int (nI c), .int (nI (3 * dd + c)), .int n] [] (sM h s) Q := by
    intro n hn
    subst hn
    refine (FM_pays_103 (FM_pays_104 (FM_pays_106 (FM_pays_108 (Nat.le_of_ble_eq_true rfl) ?_))))
    refine FM_gets_s rfl h1 hc ?_
    refine (FM_pays_111 (FM_pays_112 (FM_pays_113 (FM_pays_116 (FM_pays_118 (FM_pays_119 (FM_pays_122 (FM_pays_125 ?_))))))))
    rw [sM_12, sM_p12, nI_1]
    exact q _ _
  have w2 : (2 : Int32) ≤ nI c ↔ 2 ≤ c := leN (show (2 : Int32) = nI 2 from rfl) rfl (by omega) (by omega)
  have w3 : (3 : Int32) ≤ nI c ↔ 3 ≤ c := leN (show (3 : Int32) = nI 3 from rfl) rfl (by omega) (by omega)
  unfold eN at nx
  have n3 : ¬ (3 : Int32) ≤ nI c := fun y => absurd (w3.mp y) (by omega)
  have e3 : (3 : Int32) * nI dd + nI c = nI (3 * dd + c) := nI_addE (nI_mulE (show (3 : Int32) = nI 3 from rfl) rfl) rfl
  have gt := sM_g (h := h) (s := s) (ix60 h1 hc)
  by_cases hc2 : c < 2
  · have n2 : ¬ (2 : Int32) ≤ nI c := fun y => absurd (w2.mp y) (by omega)
    rw [if_pos hc2] at nx
    refine (FM_pays_2 (FM_pays_3 (FM_pays_4 (fun c4 => ?_) (fun c4 => (FM_pays_7 (FM_pays_8 (FM_pays_9 (FM_pays_10 (FM_pays_11 (FM_pays_12 (FM_pays_14 (FM_pays_15 (FM_pays_17 (FM_pays_18 (FM_pays_19 (fun c19 => (FM_pays_48 (FM_pays_49 (FM_pays_50 (fun c50 => (FM_pays_78 (FM_pays_80 (FM_pays_81 (FM_pays_82 (FM_pays_83 (FM_pays_84 (FM_pays_85 (FM_pays_86 (fun c86 => (FM_pays_99 (FM_pays_100 (FM_pays_101 ?_)))) (fun c86 => (FM_pays_89 (FM_pays_90 (FM_pays_93 (FM_pays_95n (nI_addE (nI_mulE (show (3 : Int32) = nI 3 from rfl) (by first | assumption | exact rfl)) (by first | assumption | exact rfl)) (by omega) (FM_pays_96 (FM_pays_100 (FM_pays_101 ?_))))))))))))))))) (fun c50 => (FM_pays_53 (FM_pays_54 (FM_pays_55 (FM_pays_56 (FM_pays_57 (FM_pays_58 (FM_pays_59 (fun c59 => (FM_pays_78 (FM_pays_80 (FM_pays_81 (FM_pays_82 (FM_pays_83 (FM_pays_84 (FM_pays_85 (FM_pays_86 (fun c86 => (FM_pays_99 (FM_pays_100 (FM_pays_101 ?_)))) (fun c86 => (FM_pays_89 (FM_pays_90 (FM_pays_93 (FM_pays_95n (nI_addE (nI_mulE (show (3 : Int32) = nI 3 from rfl) (by first | assumption | exact rfl)) (by first | assumption | exact rfl)) (by omega) (FM_pays_96 (FM_pays_100 (FM_pays_101 ?_))))))))))))))))) (fun c59 => (FM_pays_62 (FM_pays_63 (FM_pays_66 (FM_pays_67 (FM_pays_70 (FM_pays_72n (nI_addE (nI_mulE (show (3 : Int32) = nI 3 from rfl) (by first | assumption | exact rfl)) (by first | assumption | exact rfl)) (by omega) (FM_pays_73 (FM_pays_74 (FM_pays_75 (by decide) (FM_pays_76 (FM_pays_78 (FM_pays_80 (FM_pays_81 (FM_pays_82 (FM_pays_83 (FM_pays_84 (FM_pays_85 (FM_pays_86 (fun c86 => (FM_pays_99 (FM_pays_100 (FM_pays_101 ?_)))) (fun c86 => (FM_pays_89 (FM_pays_90 (FM_pays_93 (FM_pays_95n (nI_addE (nI_mulE (show (3 : Int32) = nI 3 from rfl) (by first | assumption | exact rfl)) (by first | assumption | exact rfl)) (by omega) (FM_pays_96 (FM_pays_100 (FM_pays_101 ?_))))))))))))))))))))))))))))))))))))))) (fun c19 => (FM_pays_22 (FM_pays_23 (FM_pays_24 (FM_pays_25 (FM_pays_26 (FM_pays_27 (FM_pays_28 (fun c28 => (FM_pays_48 (FM_pays_49 (FM_pays_50 (fun c50 => (FM_pays_78 (FM_pays_80 (FM_pays_81 (FM_pays_82 (FM_pays_83 (FM_pays_84 (FM_pays_85 (FM_pays_86 (fun c86 => (FM_pays_99 (FM_pays_100 (FM_pays_101 ?_)))) (fun c86 => (FM_pays_89 (FM_pays_90 (FM_pays_93 (FM_pays_95n (nI_addE (nI_mulE (show (3 : Int32) = nI 3 from rfl) (by first | assumption | exact rfl)) (by first | assumption | exact rfl)) (by omega) (FM_pays_96 (FM_pays_100 (FM_pays_101 ?_))))))))))))))))) (fun c50 => (FM_pays_53 (FM_pays_54 (FM_pays_55 (FM_pays_56 (FM_pays_57 (FM_pays_58 (FM_pays_59 (fun c59 => (FM_pays_78 (FM_pays_80 (FM_pays_81 (FM_pays_82 (FM_pays_83 (FM_pays_84 (FM_pays_85 (FM_pays_86 (fun c86 => (FM_pays_99 (FM_pays_100 (FM_pays_101 ?_)))) (fun c86 => (FM_pays_89 (FM_pays_90 (FM_pays_93 (FM_pays_95n (nI_addE (nI_mulE (show (3 : Int32) = nI 3 from rfl) (by first | assumption | exact rfl)) (by first | assumption | exact rfl)) (by omega) (FM_pays_96 (FM_pays_100 (FM_pays_101 ?_))))))))))))))))) (fun c59 => (FM_pays_62 (FM_pays_63 (FM_pays_66 (FM_pays_67 (FM_pays_70 (FM_pays_72n (nI_addE (nI_mulE (show (3 : Int32) = nI 3 from rfl) (by first | assumption | exact rfl)) (by first | assumption | exact rfl)) (by omega) (FM_pays_73 (FM_pays_74 (FM_pays_75 (by decide) (FM_pays_76 (FM_pays_78 (FM_pays_80 (FM_pays_81 (FM_pays_82 (FM_pays_83 (FM_pays_84 (FM_pays_85 (FM_pays_86 (fun c86 => (FM_pays_99 (FM_pays_100 (FM_pays_101 ?_)))) (fun c86 => (FM_pays_89 (FM_pays_90 (FM_pays_93 (FM_pays_95n (nI_addE (nI_mulE (show (3 : Int32) = nI 3 from rfl) (by first | assumption | exact rfl)) (by first | assumption | exact rfl)) (by omega) (FM_pays_96 (FM_pays_100 (FM_pays_101 ?_))))))))))))))))))))))))))))))))))))))) (fun c28 => (FM_pays_31 (FM_pays_32 (FM_pays_35 (FM_pays_36 (FM_pays_39 (FM_pays_41n (nI_addE (nI_mulE (show (3 : Int32) = nI 3 from rfl) (by first | assumption | exact rfl)) (by first | assumption | exact rfl)) (by omega) (FM_pays_42 (FM_pays_43 (FM_pays_45 (FM_pays_78 (FM_pays_80 (FM_pays_81 (FM_pays_82 (FM_pays_83 (FM_pays_84 (FM_pays_85 (FM_pays_86 (fun c86 => (FM_pays_99 (FM_pays_100 (FM_pays_101 ?_)))) (fun c86 => (FM_pays_89 (FM_pays_90 (FM_pays_93 (FM_pays_95n (nI_addE (nI_mulE (show (3 : Int32) = nI 3 from rfl) (by first | assumption | exact rfl)) (by first | assumption | exact rfl)) (by omega) (FM_pays_96 (FM_pays_100 (FM_pays_101 ?_)))))))))))))))))))))))))))))))))))))))))))))))))
    all_goals first | exact absurd (by assumption) n2 | exact absurd (by assumption) n3 | skip
    all_goals rw [e3]
    all_goals simp only [bt_g0, bt_g1, bt_g2] at *
    all_goals (refine nx _ ?_; simp [sM_11, Int32.add_comm, Int32.mul_comm, *]; done)
  · have n2 : (2 : Int32) ≤ nI c := w2.mpr (by omega)
    rw [if_neg hc2] at nx
    refine (FM_pays_2 (FM_pays_3 (FM_pays_4 (fun c4 => ?_) (fun c4 => (FM_pays_7 (FM_pays_8 (FM_pays_9 (FM_pays_10 (FM_pays_11 (FM_pays_12 (FM_pays_14 (FM_pays_15 (FM_pays_17 (FM_pays_18 (FM_pays_19 (fun c19 => (FM_pays_48 (FM_pays_49 (FM_pays_50 (fun c50 => (FM_pays_78 (FM_pays_80 (FM_pays_81 (FM_pays_82 (FM_pays_83 (FM_pays_84 (FM_pays_85 (FM_pays_86 (fun c86 => (FM_pays_99 (FM_pays_100 (FM_pays_101 ?_)))) (fun c86 => (FM_pays_89 (FM_pays_90 (FM_pays_93 (FM_pays_95n (nI_addE (nI_mulE (show (3 : Int32) = nI 3 from rfl) (by first | assumption | exact rfl)) (by first | assumption | exact rfl)) (by omega) (FM_pays_96 (FM_pays_100 (FM_pays_101 ?_))))))))))))))))) (fun c50 => (FM_pays_53 (FM_pays_54 (FM_pays_55 (FM_pays_56 (FM_pays_57 (FM_pays_58 (FM_pays_59 (fun c59 => (FM_pays_78 (FM_pays_80 (FM_pays_81 (FM_pays_82 (FM_pays_83 (FM_pays_84 (FM_pays_85 (FM_pays_86 (fun c86 => (FM_pays_99 (FM_pays_100 (FM_pays_101 ?_)))) (fun c86 => (FM_pays_89 (FM_pays_90 (FM_pays_93 (FM_pays_95n (nI_addE (nI_mulE (show (3 : Int32) = nI 3 from rfl) (by first | assumption | exact rfl)) (by first | assumption | exact rfl)) (by omega) (FM_pays_96 (FM_pays_100 (FM_pays_101 ?_))))))))))))))))) (fun c59 => (FM_pays_62 (FM_pays_63 (FM_pays_66 (FM_pays_67 (FM_pays_70 (FM_pays_72n (nI_addE (nI_mulE (show (3 : Int32) = nI 3 from rfl) (by first | assumption | exact rfl)) (by first | assumption | exact rfl)) (by omega) (FM_pays_73 (FM_pays_74 (FM_pays_75 (by decide) (FM_pays_76 (FM_pays_78 (FM_pays_80 (FM_pays_81 (FM_pays_82 (FM_pays_83 (FM_pays_84 (FM_pays_85 (FM_pays_86 (fun c86 => (FM_pays_99 (FM_pays_100 (FM_pays_101 ?_)))) (fun c86 => (FM_pays_89 (FM_pays_90 (FM_pays_93 (FM_pays_95n (nI_addE (nI_mulE (show (3 : Int32) = nI 3 from rfl) (by first | assumption | exact rfl)) (by first | assumption | exact rfl)) (by omega) (FM_pays_96 (FM_pays_100 (FM_pays_101 ?_))))))))))))))))))))))))))))))))))))))) (fun c19 => (FM_pays_22 (FM_pays_23 (FM_pays_24 (FM_pays_25 (FM_pays_26 (FM_pays_27 (FM_pays_28 (fun c28 => (FM_pays_48 (FM_pays_49 (FM_pays_50 (fun c50 => (FM_pays_78 (FM_pays_80 (FM_pays_81 (FM_pays_82 (FM_pays_83 (FM_pays_84 (FM_pays_85 (FM_pays_86 (fun c86 => (FM_pays_99 (FM_pays_100 (FM_pays_101 ?_)))) (fun c86 => (FM_pays_89 (FM_pays_90 (FM_pays_93 (FM_pays_95n (nI_addE (nI_mulE (show (3 : Int32) = nI 3 from rfl) (by first | assumption | exact rfl)) (by first | assumption | exact rfl)) (by omega) (FM_pays_96 (FM_pays_100 (FM_pays_101 ?_))))))))))))))))) (fun c50 => (FM_pays_53 (FM_pays_54 (FM_pays_55 (FM_pays_56 (FM_pays_57 (FM_pays_58 (FM_pays_59 (fun c59 => (FM_pays_78 (FM_pays_80 (FM_pays_81 (FM_pays_82 (FM_pays_83 (FM_pays_84 (FM_pays_85 (FM_pays_86 (fun c86 => (FM_pays_99 (FM_pays_100 (FM_pays_101 ?_)))) (fun c86 => (FM_pays_89 (FM_pays_90 (FM_pays_93 (FM_pays_95n (nI_addE (nI_mulE (show (3 : Int32) = nI 3 from rfl) (by first | assumption | exact rfl)) (by first | assumption | exact rfl)) (by omega) (FM_pays_96 (FM_pays_100 (FM_pays_101 ?_))))))))))))))))) (fun c59 => (FM_pays_62 (FM_pays_63 (FM_pays_66 (FM_pays_67 (FM_pays_70 (FM_pays_72n (nI_addE (nI_mulE (show (3 : Int32) = nI 3 from rfl) (by first | assumption | exact rfl)) (by first | assumption | exact rfl)) (by omega) (FM_pays_73 (FM_pays_74 (FM_pays_75 (by decide) (FM_pays_76 (FM_pays_78 (FM_pays_80 (FM_pays_81 (FM_pays_82 (FM_pays_83 (FM_pays_84 (FM_pays_85 (FM_pays_86 (fun c86 => (FM_pays_99 (FM_pays_100 (FM_pays_101 ?_)))) (fun c86 => (FM_pays_89 (FM_pays_90 (FM_pays_93 (FM_pays_95n (nI_addE (nI_mulE (show (3 : Int32) = nI 3 from rfl) (by first | assumption | exact rfl)) (by first | assumption | exact rfl)) (by omega) (FM_pays_96 (FM_pays_100 (FM_pays_101 ?_))))))))))))))))))))))))))))))))))))))) (fun c28 => (FM_pays_31 (FM_pays_32 (FM_pays_35 (FM_pays_36 (FM_pays_39 (FM_pays_41n (nI_addE (nI_mulE (show (3 : Int32) = nI 3 from rfl) (by first | assumption | exact rfl)) (by first | assumption | exact rfl)) (by omega) (FM_pays_42 (FM_pays_43 (FM_pays_45 (FM_pays_78 (FM_pays_80 (FM_pays_81 (FM_pays_82 (FM_pays_83 (FM_pays_84 (FM_pays_85 (FM_pays_86 (fun c86 => (FM_pays_99 (FM_pays_100 (FM_pays_101 ?_)))) (fun c86 => (FM_pays_89 (FM_pays_90 (FM_pays_93 (FM_pays_95n (nI_addE (nI_mulE (show (3 : Int32) = nI 3 from rfl) (by first | assumption | exact rfl)) (by first | assumption | exact rfl)) (by omega) (FM_pays_96 (FM_pays_100 (FM_pays_101 ?_)))))))))))))))))))))))))))))))))))))))))))))))))
    all_goals first | exact absurd n2 (by assumption) | exact absurd (by assumption) n3 | skip
    all_goals rw [e3]
    all_goals simp only [bt_g0, bt_g1, bt_g2] at *
    all_goals (refine nx _ ?_; simp [sM_11, Int32.add_comm, Int32.mul_comm, *]; done)
end SM
