section E2
variable {X : SX} {d D dd c k o : Nat} {h : HH} {Q : Int32 → HH → Prop} {s : EC} {x y z v n wg kk : Int32}
theorem eEat_p {i : Nat} {g : Int32} (hi : ∀ q, q < 15 → q ≠ 1 → i ≠ dd * 15 + q) : (eEat s dd g).1 i = s.1 i := up_ne (hi 0 (by omega) (by omega))
theorem ePay_p {i c : Nat} (hi : ∀ q, q < 15 → q ≠ 1 → i ≠ dd * 15 + q) (hc : c < 3) : (ePay s dd kk wg c).1 i = s.1 i := up_ne (hi (5 + c) (by omega) (by omega))
theorem eRem_p {i : Nat} (hi : ∀ q, q < 15 → q ≠ 1 → i ≠ dd * 15 + q) : (eRem s dd kk).1 i = s.1 i := by
  unfold eRem; split
  · exact up_ne (hi 8 (by omega) (by omega))
  · rfl
theorem eLoan_p {i : Nat} (hi : ∀ q, q < 15 → q ≠ 1 → i ≠ dd * 15 + q) : (eLoan s dd kk).1 i = s.1 i := by
  unfold eLoan; split
  · exact (up_ne (hi (5 + 1) (by omega) (by omega))).trans (up_ne (hi 8 (by omega) (by omega)))
  · rfl
theorem eIt_p {i c : Nat} {g : Int32} (hi : ∀ q, q < 15 → q ≠ 1 → i ≠ dd * 15 + q) (hc : c < 3) : (eIt s dd c g).1 i = s.1 i :=
  (up_ne (hi (2 + c) (by omega) (by omega))).trans ((up_ne (hi (12 + c) (by omega) (by omega))).trans ((up_ne (hi (9 + c) (by omega) (by omega))).trans ((up_ne (hi (5 + c) (by omega) (by omega))).trans (up_ne (hi 0 (by omega) (by omega))))))
theorem eA_p {i : Nat} (hi : ∀ q, q < 15 → q ≠ 1 → i ≠ dd * 15 + q) : (eA s dd kk wg).1 i = s.1 i :=
  (eLoan_p hi).trans ((eRem_p hi).trans ((ePay_p hi (by omega)).trans ((ePay_p hi (by omega)).trans ((ePay_p hi (by omega)).trans (eEat_p hi)))))
theorem eLive_p {i : Nat} (hi : ∀ q, q < 15 → q ≠ 1 → i ≠ dd * 15 + q) : (eLive s dd kk wg).1 i = s.1 i :=
  (eIt_p hi (by omega)).trans ((eIt_p hi (by omega)).trans ((eIt_p hi (by omega)).trans (eA_p hi)))
theorem pr_i {a b : Nat} : ∀ q, q < 15 → q ≠ 1 → a * 15 + 1 ≠ b * 15 + q := by intro q h1 h2; omega
theorem La_pass_i {p : Nat} {g acc : Int32} {a6 : Value} (ho : isLa o) (h1 : dd < 6) (hc : c < 3) (hp : s.1 (dd * 15 + 1) = nI p) (hp1 : 1 ≤ p) (hp2 : p ≤ 99) (q : ∀ a6 : Value, E X (d + 4) La_pass 36 [.ref o, .int (nI dd), .int kk, .int g, .int (acc + eMs s dd c g), .int (nI c + -1), a6] [] (sC h o (eIt s dd c g)) Q) : E X (d + 4) La_pass 36 [.ref o, .int (nI dd), .int kk, .int g, .int acc, .int (nI c), a6] [] (sC h o s) Q := by
  have nx : ∀ n, n = eNd s dd c g → E X (d + 4) La_pass 61 [.ref o, .int (nI dd), .int kk, .int g, .int acc, .int (nI c), a6] [.int n] (sC h o s) Q := by
    intro n hn
    subst hn
    refine (La_pass_61 (La_pass_63 (La_pass_65 (La_pass_66 (La_pass_67 (La_pass_69 (La_pass_71 (La_pass_72 (La_pass_73 (La_pass_75 (La_pass_77 ho (Nat.le_of_ble_eq_true rfl) ?_)))))))))))
    refine La_buy_s ho rfl rfl h1 hc hp hp1 hp2 ?_
    refine (La_pass_80 (La_pass_81 ho (Nat.le_of_ble_eq_true rfl) ?_))
    refine La_suffer_s ho rfl rfl h1 hc ?_
    refine (La_pass_84 (La_pass_85 (La_pass_87 (La_pass_90 ?_))))
    exact q _
  unfold eNd at nx
  refine (La_pass_36 (La_pass_38 (fun c38 => ?_) (fun c38 => (La_pass_41 (La_pass_42 (La_pass_43 (La_pass_44 (La_pass_46 (La_pass_47 ho (Nat.le_of_ble_eq_true rfl) (La_get_s ho (by first | assumption | exact rfl) (nI_addE (show (2 : Int32) = nI 2 from rfl) (by first | assumption | exact rfl)) (by omega) (by omega) (La_pass_50 (La_pass_52 (fun c52 => (La_pass_59 (La_pass_60 ?_))) (fun c52 => (La_pass_55 (La_pass_56 (La_pass_60 ?_))))))))))))))))
  · exact absurd ((ltN rfl (show (0 : Int32) = nI 0 from rfl) (by omega) (by omega)).mp c38) (by omega)
  · have hc0 : ¬ c = 0 := fun y => c52 (by rw [y]; rfl)
    refine nx _ ?_
    rw [if_neg hc0]
  · have hc0 : c = 0 := nI_inj (b := 0) c52 (by omega) (by omega)
    refine nx _ ?_
    rw [if_pos hc0]
theorem La_pass_s {p : Nat} (ho : isLa o) (e1 : x = nI dd) (h1 : dd < 6) (hw : h.1 o 2 = wg) (hp : s.1 (dd * 15 + 1) = nI p) (hp1 : 1 ≤ p) (hp2 : p ≤ 99) (q : Q (eLack s dd kk wg) (sC h o (eLive s dd kk wg))) : E X (d + 4) La_pass 0 [.ref o, .int x, .int kk, U0, U0, U0, U0] [] (sC h o s) Q := by
  subst e1
  have nx : ∀ g, g = eGiv s dd kk → E X (d + 4) La_pass 18 [.ref o, .int (nI dd), .int kk, .int g, U0, U0, U0] [] (sC h o (eEat s dd g)) Q := by
    intro g hg
    subst hg
    have p1 : (eA s dd kk wg).1 (dd * 15 + 1) = nI p := (eA_p pr_i).trans hp
    have p2 : (eIt (eA s dd kk wg) dd 2 (eGiv s dd kk)).1 (dd * 15 + 1) = nI p := (eIt_p pr_i (by omega)).trans p1
    have p3 : (eIt (eIt (eA s dd kk wg) dd 2 (eGiv s dd kk)) dd 1 (eGiv s dd kk)).1 (dd * 15 + 1) = nI p := (eIt_p pr_i (by omega)).trans p2
    refine (La_pass_18 (La_pass_19 (La_pass_20 (La_pass_21 ho (Nat.le_of_ble_eq_true rfl) (La_pay_s ho (by first | assumption | exact rfl) h1 (by assumption) (La_pass_24 (La_pass_25 (La_pass_26 (La_pass_27 ho (Nat.le_of_ble_eq_true rfl) (La_lend_s ho (by first | assumption | exact rfl) h1 (La_pass_30 (La_pass_31 (La_pass_33 (La_pass_34 ?_))))))))))))))
    refine La_pass_i (c := 2) ho h1 (by omega) p1 hp1 hp2 (fun _ => ?_)
    refine La_pass_i (c := 1) ho h1 (by omega) p2 hp1 hp2 (fun _ => ?_)
    refine La_pass_i (c := 0) ho h1 (by omega) p3 hp1 hp2 (fun _ => ?_)
    refine (La_pass_36 (La_pass_38 (fun _ => (La_pass_93 (La_pass_95 ?_))) (fun z => absurd z (by decide))))
    exact q
  unfold eGiv at nx
  refine (La_pass_0 (La_pass_1 (La_pass_2 (Nat.le_of_ble_eq_true rfl) (La_isAmong_c (show (3 : Int32) = nI 3 from rfl) (by omega) (fun c2 => (La_pass_5 (fun z => absurd z (by decide)) (fun _ => (La_pass_8 (La_pass_9 (La_pass_10 ho (Nat.le_of_ble_eq_true rfl) (La_eat_s ho (by first | assumption | exact rfl) h1 (La_pass_13 (La_pass_17 ?_))))))))) (fun c2 => (La_pass_5 (fun _ => (La_pass_16 (La_pass_17 ?_))) (fun z => absurd z (by decide))))))))
  · exact nx _ (by rw [if_pos c2])
  · have := nx 0 (by rw [if_neg (by simpa using c2)])
    rw [eEat, Int32.sub_zero, eSet, up_id] at this
    exact this
/-! ranges -/
def eOk (s : EC) (d : Nat) : Prop := isN (s.1 (d * 15 + 0)) 0 99999 ∧ isN (s.1 (d * 15 + 1)) 1 99 ∧ ∀ c, c < 3 → isN (s.1 (d * 15 + (2 + c))) 0 999 ∧ isN (s.1 (d * 15 + (5 + c))) 0 99999
theorem mn_nI {a b : Nat} (ha : a < 2 ^ 31) (hb : b < 2 ^ 31) : mn (nI a) (nI b) = nI (min a b) := by
  unfold mn
  by_cases h : b < a
  · rw [if_pos ((nI_ltI hb ha).mpr h), Nat.min_eq_right (by omega)]
  · rw [if_neg (fun y => h ((nI_ltI hb ha).mp y)), Nat.min_eq_left (by omega)]
end E2
