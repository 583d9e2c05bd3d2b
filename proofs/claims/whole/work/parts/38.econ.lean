abbrev EC : Type := (Nat → Int32) × Int32 × Int32 × Int32
def up (f : Nat → Int32) (i : Nat) (v : Int32) : Nat → Int32 := fun y => if y = i then v else f y
def mn (a b : Int32) : Int32 := if b < a then b else a
theorem mn_least (a b : Int32) : (if a < b then a else b) = mn a b := by
  unfold mn
  by_cases h : a < b
  · rw [if_pos h, if_neg]
    intro h2
    have h1 := (fa_lt _ _).mp h
    have h3 := (fa_lt _ _).mp h2
    omega
  · rw [if_neg h]
    by_cases h2 : b < a
    · rw [if_pos h2]
    · rw [if_neg h2]
      apply (fa_eq _ _).mpr
      have h1 : ¬ a.toInt < b.toInt := fun y => h ((fa_lt _ _).mpr y)
      have h3 : ¬ b.toInt < a.toInt := fun y => h2 ((fa_lt _ _).mpr y)
      omega
theorem mn_comm (a b : Int32) : mn a b = mn b a := by
  rw [← mn_least a b]; rfl
theorem up_id (f : Nat → Int32) (i : Nat) : up f i (f i) = f := by
  funext y
  unfold up
  split
  · subst_vars; rfl
  · rfl
theorem up_at (f : Nat → Int32) (i : Nat) (v : Int32) : up f i v i = v := if_pos rfl
theorem up_ne {f : Nat → Int32} {i j : Nat} {v : Int32} (h : j ≠ i) : up f i v j = f j := if_neg h
def eSet (s : EC) (i : Nat) (v : Int32) : EC := (up s.1 i v, s.2)
def eGiv (s : EC) (d : Nat) (k : Int32) : Int32 := if bt k 3 = true then mn (s.1 (d * 15 + (2 + 0))) (s.1 (d * 15 + 0)) else 0
def eEat (s : EC) (d : Nat) (g : Int32) : EC := eSet s (d * 15 + 0) (s.1 (d * 15 + 0) - g)
def eN (s : EC) (d : Nat) (k wg : Int32) (c : Nat) : Int32 :=
  (if bt k 0 = true then s.1 (d * 15 + (2 + c)) else 0) + (if c < 2 then (if bt k 2 = true then s.1 (d * 15 + (2 + c)) * wg else if bt k 1 = true then s.1 (d * 15 + (2 + c)) * wg / 2 else 0) else 0)
def ePay (s : EC) (d : Nat) (k wg : Int32) (c : Nat) : EC := (up s.1 (d * 15 + (5 + c)) (mn 99999 (s.1 (d * 15 + (5 + c)) + eN s d k wg c)), s.2.1 + eN s d k wg c, s.2.2)
def eRem (s : EC) (d : Nat) (k : Int32) : EC := if bt k 5 = true then eSet s (d * 15 + 8) (s.1 (d * 15 + 8) / 2) else s
def eLoan (s : EC) (d : Nat) (k : Int32) : EC := if bt k 4 = true then (up (up s.1 (d * 15 + 8) (s.1 (d * 15 + 8) + 3 * s.1 (d * 15 + 3))) (d * 15 + (5 + 1)) (mn 99999 (s.1 (d * 15 + (5 + 1)) + 3 * s.1 (d * 15 + 3))), s.2.1, s.2.2.1 + 3 * s.1 (d * 15 + 3), s.2.2.2) else s
def eT (s : EC) (d c : Nat) (n : Int32) : Int32 := mn n (mn (s.1 (d * 15 + 0)) (s.1 (d * 15 + (5 + c)) / s.1 (d * 15 + 1)))
def eBuy (s : EC) (d c : Nat) (t : Int32) : EC := (up (up s.1 (d * 15 + 0) (s.1 (d * 15 + 0) - t)) (d * 15 + (5 + c)) (s.1 (d * 15 + (5 + c)) - t * s.1 (d * 15 + 1)), s.2.1, s.2.2.1, s.2.2.2 + t * s.1 (d * 15 + 1))
def eSuf (s : EC) (d c : Nat) (m : Int32) : EC := (up (up (up s.1 (d * 15 + (9 + c)) (s.1 (d * 15 + (9 + c)) + m)) (d * 15 + (12 + c)) (s.1 (d * 15 + (12 + c)) + m / 10)) (d * 15 + (2 + c)) (s.1 (d * 15 + (2 + c)) - m / 10), s.2)
def eNd (s : EC) (d c : Nat) (g : Int32) : Int32 := s.1 (d * 15 + (2 + c)) - (if c = 0 then g else 0)
def eMs (s : EC) (d c : Nat) (g : Int32) : Int32 := eNd s d c g - eT s d c (eNd s d c g)
def eIt (s : EC) (d c : Nat) (g : Int32) : EC := eSuf (eBuy s d c (eT s d c (eNd s d c g))) d c (eMs s d c g)
def eA (s : EC) (d : Nat) (k wg : Int32) : EC := eLoan (eRem (ePay (ePay (ePay (eEat s d (eGiv s d k)) d k wg 0) d k wg 1) d k wg 2) d k) d k
def eLive (s : EC) (d : Nat) (k wg : Int32) : EC := eIt (eIt (eIt (eA s d k wg) d 2 (eGiv s d k)) d 1 (eGiv s d k)) d 0 (eGiv s d k)
def eLack (s : EC) (d : Nat) (k wg : Int32) : Int32 :=
  0 + eMs (eA s d k wg) d 2 (eGiv s d k) + eMs (eIt (eA s d k wg) d 2 (eGiv s d k)) d 1 (eGiv s d k) + eMs (eIt (eIt (eA s d k wg) d 2 (eGiv s d k)) d 1 (eGiv s d k)) d 0 (eGiv s d k)
/-! the class's side: land o holds s -/
def sC (h : HH) (o : Nat) (s : EC) : HH := (fun x y => if x = o + 1 then s.1 y else if x = o ∧ y = 3 then s.2.1 else if x = o ∧ y = 4 then s.2.2.1 else if x = o ∧ y = 5 then s.2.2.2 else h.1 x y, h.2)
section SC
variable {X : SX} {d D dd c k o : Nat} {h : HH} {Q : Int32 → HH → Prop} {s : EC} {x y z v n wg kk : Int32}
theorem sC_r {i : Nat} : (sC h o s).1 (o + 1) i = s.1 i := if_pos rfl
theorem sC_2 : (sC h o s).1 o 2 = h.1 o 2 := by simp [sC]
theorem sC_3 : (sC h o s).1 o 3 = s.2.1 := by simp [sC]
theorem sC_4 : (sC h o s).1 o 4 = s.2.2.1 := by simp [sC]
theorem sC_5 : (sC h o s).1 o 5 = s.2.2.2 := by simp [sC]
theorem sC_pr {i : Nat} : pI (sC h o s) (o + 1) i v = sC h o (eSet s i v) := by
  refine Prod.ext ?_ rfl
  funext a b
  simp only [pI, sC, eSet, up]
  by_cases e : a = o + 1
  · simp [e]
  · simp [e]
theorem sC_p3 : pI (sC h o s) o 3 v = sC h o (s.1, v, s.2.2) := by
  refine Prod.ext ?_ rfl
  funext a b
  simp only [pI, sC]
  by_cases e : a = o + 1
  · subst e; simp
  · by_cases e2 : a = o <;> by_cases e3 : b = 3 <;> simp [e2, e3]
theorem sC_p4 : pI (sC h o s) o 4 v = sC h o (s.1, s.2.1, v, s.2.2.2) := by
  refine Prod.ext ?_ rfl
  funext a b
  simp only [pI, sC]
  by_cases e : a = o + 1
  · subst e; simp
  · by_cases e2 : a = o <;> by_cases e3 : b = 4 <;> simp [e2, e3]
theorem sC_p5 : pI (sC h o s) o 5 v = sC h o (s.1, s.2.1, s.2.2.1, v) := by
  refine Prod.ext ?_ rfl
  funext a b
  simp only [pI, sC]
  by_cases e : a = o + 1
  · subst e; simp
  · by_cases e2 : a = o <;> by_cases e3 : b = 5 <;> simp [e2, e3]
theorem La_get_s (ho : isLa o) (e1 : x = nI dd) (e2 : y = nI k) (h1 : dd < 6) (h2 : k < 15) (q : Q (s.1 (dd * 15 + k)) (sC h o s)) : E X d La_get 0 [.ref o, .int x, .int y] [] (sC h o s) Q :=
  La_get_e ho e1 e2 h1 h2 (by rw [sC_r]; exact q)
theorem La_put_s (ho : isLa o) (e1 : x = nI dd) (e2 : y = nI k) (h1 : dd < 6) (h2 : k < 15) (q : Q (s.1 (dd * 15 + k)) (sC h o (eSet s (dd * 15 + k) v))) : E X (d + 1) La_put 0 [.ref o, .int x, .int y, .int v, U0] [] (sC h o s) Q :=
  La_put_e ho e1 e2 h1 h2 (by rw [sC_r, sC_pr]; exact q)
theorem La_more_s (ho : isLa o) (e1 : x = nI dd) (e2 : y = nI k) (h1 : dd < 6) (h2 : k < 15) (q : Q 0 (sC h o (eSet s (dd * 15 + k) (s.1 (dd * 15 + k) + v)))) : E X (d + 2) La_more 0 [.ref o, .int x, .int y, .int v] [] (sC h o s) Q :=
  La_more_e ho e1 e2 h1 h2 (by rw [sC_r, sC_pr]; exact q)
theorem JM_min_c (q : Q (mn x y) h) : E X d JM_min 0 [.int x, .int y] [] h Q := by
  unfold mn at q
  refine (JM_min_0 (JM_min_1 (JM_min_2 (fun c2 => (JM_min_9 (JM_min_10 ?_))) (fun c2 => (JM_min_5 (JM_min_6 (JM_min_10 ?_)))))))
  · rw [if_pos c2] at q; exact q
  · rw [if_neg c2] at q; exact q
theorem La_isAmong_c (e2 : y = nI k) (h2 : k < 32) (t : bt x k = true → Q 1 h) (f : bt x k = false → Q 0 h) : E X d La_isAmong 0 [.int x, .int y] [] h Q := by
  subst e2
  refine (La_isAmong_0 (La_isAmong_1 (La_isAmong_2 (La_isAmong_3 (La_isAmong_4 (La_isAmong_5 (La_isAmong_6 (fun c6 => (La_isAmong_13 (La_isAmong_14 rfl ?_))) (fun c6 => (La_isAmong_9 (La_isAmong_10 (La_isAmong_14 rfl ?_)))))))))))
  · rw [bt_get1 x h2] at c6; exact f (by simpa using c6)
  · rw [bt_get1 x h2] at c6; exact t c6
theorem La_receive_s (ho : isLa o) (e1 : x = nI dd) (e2 : y = nI c) (h1 : dd < 6) (h2 : c < 3) (q : Q 0 (sC h o (eSet s (dd * 15 + (5 + c)) (mn 99999 (s.1 (dd * 15 + (5 + c)) + n))))) : E X (d + 2) La_receive 0 [.ref o, .int x, .int y, .int n] [] (sC h o s) Q := by
  subst e1; subst e2
  refine (La_receive_0 (La_receive_1 (La_receive_2 (La_receive_3 (La_receive_4 (La_receive_5 (La_receive_7 (La_receive_8 (La_receive_9 (La_receive_10 (La_receive_11 (La_receive_12 ho (Nat.le_of_ble_eq_true rfl) (La_get_s ho (by first | assumption | exact rfl) (nI_addE (show (5 : Int32) = nI 5 from rfl) (by first | assumption | exact rfl)) (by omega) (by omega) (La_receive_15 (La_receive_16 (La_receive_17 (Nat.le_of_ble_eq_true rfl) (JM_min_c (La_receive_20 ho (Nat.le_of_ble_eq_true rfl) (La_put_s ho (by first | assumption | exact rfl) (nI_addE (show (5 : Int32) = nI 5 from rfl) (by first | assumption | exact rfl)) (by omega) (by omega) (La_receive_23 (La_receive_24 ?_)))))))))))))))))))))
  exact q
theorem La_pay_i (ho : isLa o) (h1 : dd < 6) (hc : c < 3) (hw : h.1 o 2 = wg) {a4 a5 : Value} (q : ∀ a4 a5 : Value, E X (d + 3) La_pay 2 [.ref o, .int (nI dd), .int kk, .int (nI (c + 1)), a4, a5] [] (sC h o (ePay s dd kk wg c)) Q) : E X (d + 3) La_pay 2 [.ref o, .int (nI dd), .int kk, .int (nI c), a4, a5] [] (sC h o s) Q := by
  have nx : ∀ n, n = eN s dd kk wg c → E X (d + 3) La_pay 88 [.ref o, .int (nI dd), .int kk, .int (nI c), .int (s.1 (dd * 15 + (2 + c))), .int n] [] (sC h o s) Q := by
    intro n hn
    subst hn
    refine (La_pay_88 (La_pay_89 (La_pay_90 ho (La_pay_93 (La_pay_95 (La_pay_96 ho (La_pay_99 (La_pay_100 (La_pay_101 (La_pay_102 (La_pay_104 ho (Nat.le_of_ble_eq_true rfl) ?_)))))))))))
    rw [sC_3, sC_p3]
    refine La_receive_s ho rfl rfl h1 hc ?_
    refine (La_pay_107 (La_pay_110 ?_))
    rw [nI_1]
    exact q _ _
  have w2 : (2 : Int32) ≤ nI c ↔ 2 ≤ c := leN (show (2 : Int32) = nI 2 from rfl) rfl (by omega) (by omega)
  have w3 : (3 : Int32) ≤ nI c ↔ 3 ≤ c := leN (show (3 : Int32) = nI 3 from rfl) rfl (by omega) (by omega)
  unfold eN at nx
  have n3 : ¬ (3 : Int32) ≤ nI c := fun y => absurd (w3.mp y) (by omega)
  by_cases hc2 : c < 2
  · have n2 : ¬ (2 : Int32) ≤ nI c := fun y => absurd (w2.mp y) (by omega)
    rw [if_pos hc2] at nx
    refine (La_pay_2 (La_pay_3 (La_pay_4 (fun c4 => ?_) (fun c4 => (La_pay_7 (La_pay_8 (La_pay_9 (La_pay_10 (La_pay_11 (La_pay_12 ho (Nat.le_of_ble_eq_true rfl) (La_get_s ho (by first | assumption | exact rfl) (nI_addE (show (2 : Int32) = nI 2 from rfl) (by first | assumption | exact rfl)) (by omega) (by omega) (La_pay_15 (La_pay_17 (La_pay_18 (La_pay_19 (Nat.le_of_ble_eq_true rfl) (La_isAmong_c (show (0 : Int32) = nI 0 from rfl) (by omega) (fun c19 => (La_pay_22 (fun z => absurd z (by decide)) (fun _ => (La_pay_25 (La_pay_27 (La_pay_31 (La_pay_33 (La_pay_34 (La_pay_35 (fun c35 => (La_pay_61 (La_pay_62 (La_pay_63 (fun c63 => ?_) (fun c63 => (La_pay_66 (La_pay_67 (La_pay_68 (Nat.le_of_ble_eq_true rfl) (La_isAmong_c (show (1 : Int32) = nI 1 from rfl) (by omega) (fun c68 => (La_pay_71 (fun z => absurd z (by decide)) (fun _ => (La_pay_74 (La_pay_76 (La_pay_78 (La_pay_79 ho (La_pay_82 (La_pay_83 (La_pay_84 (by decide) (La_pay_85 (La_pay_86 ?_)))))))))))) (fun c68 => (La_pay_71 (fun _ => ?_) (fun z => absurd z (by decide))))))))))))) (fun c35 => (La_pay_38 (La_pay_39 (La_pay_40 (Nat.le_of_ble_eq_true rfl) (La_isAmong_c (show (2 : Int32) = nI 2 from rfl) (by omega) (fun c40 => (La_pay_43 (fun z => absurd z (by decide)) (fun _ => (La_pay_46 (La_pay_48 (La_pay_50 (La_pay_51 ho (La_pay_54 (La_pay_55 (La_pay_56 (La_pay_58 ?_))))))))))) (fun c40 => (La_pay_43 (fun _ => (La_pay_61 (La_pay_62 (La_pay_63 (fun c63 => ?_) (fun c63 => (La_pay_66 (La_pay_67 (La_pay_68 (Nat.le_of_ble_eq_true rfl) (La_isAmong_c (show (1 : Int32) = nI 1 from rfl) (by omega) (fun c68 => (La_pay_71 (fun z => absurd z (by decide)) (fun _ => (La_pay_74 (La_pay_76 (La_pay_78 (La_pay_79 ho (La_pay_82 (La_pay_83 (La_pay_84 (by decide) (La_pay_85 (La_pay_86 ?_)))))))))))) (fun c68 => (La_pay_71 (fun _ => ?_) (fun z => absurd z (by decide))))))))))))) (fun z => absurd z (by decide)))))))))))))))))) (fun c19 => (La_pay_22 (fun _ => (La_pay_30 (La_pay_31 (La_pay_33 (La_pay_34 (La_pay_35 (fun c35 => (La_pay_61 (La_pay_62 (La_pay_63 (fun c63 => ?_) (fun c63 => (La_pay_66 (La_pay_67 (La_pay_68 (Nat.le_of_ble_eq_true rfl) (La_isAmong_c (show (1 : Int32) = nI 1 from rfl) (by omega) (fun c68 => (La_pay_71 (fun z => absurd z (by decide)) (fun _ => (La_pay_74 (La_pay_76 (La_pay_78 (La_pay_79 ho (La_pay_82 (La_pay_83 (La_pay_84 (by decide) (La_pay_85 (La_pay_86 ?_)))))))))))) (fun c68 => (La_pay_71 (fun _ => ?_) (fun z => absurd z (by decide))))))))))))) (fun c35 => (La_pay_38 (La_pay_39 (La_pay_40 (Nat.le_of_ble_eq_true rfl) (La_isAmong_c (show (2 : Int32) = nI 2 from rfl) (by omega) (fun c40 => (La_pay_43 (fun z => absurd z (by decide)) (fun _ => (La_pay_46 (La_pay_48 (La_pay_50 (La_pay_51 ho (La_pay_54 (La_pay_55 (La_pay_56 (La_pay_58 ?_))))))))))) (fun c40 => (La_pay_43 (fun _ => (La_pay_61 (La_pay_62 (La_pay_63 (fun c63 => ?_) (fun c63 => (La_pay_66 (La_pay_67 (La_pay_68 (Nat.le_of_ble_eq_true rfl) (La_isAmong_c (show (1 : Int32) = nI 1 from rfl) (by omega) (fun c68 => (La_pay_71 (fun z => absurd z (by decide)) (fun _ => (La_pay_74 (La_pay_76 (La_pay_78 (La_pay_79 ho (La_pay_82 (La_pay_83 (La_pay_84 (by decide) (La_pay_85 (La_pay_86 ?_)))))))))))) (fun c68 => (La_pay_71 (fun _ => ?_) (fun z => absurd z (by decide))))))))))))) (fun z => absurd z (by decide))))))))))))))) (fun z => absurd z (by decide))))))))))))))))))))
    all_goals first | exact absurd (by assumption) n2 | exact absurd (by assumption) n3 | (refine nx _ ?_; simp [sC_2, *]; done)
  · have n2 : (2 : Int32) ≤ nI c := w2.mpr (by omega)
    rw [if_neg hc2] at nx
    refine (La_pay_2 (La_pay_3 (La_pay_4 (fun c4 => ?_) (fun c4 => (La_pay_7 (La_pay_8 (La_pay_9 (La_pay_10 (La_pay_11 (La_pay_12 ho (Nat.le_of_ble_eq_true rfl) (La_get_s ho (by first | assumption | exact rfl) (nI_addE (show (2 : Int32) = nI 2 from rfl) (by first | assumption | exact rfl)) (by omega) (by omega) (La_pay_15 (La_pay_17 (La_pay_18 (La_pay_19 (Nat.le_of_ble_eq_true rfl) (La_isAmong_c (show (0 : Int32) = nI 0 from rfl) (by omega) (fun c19 => (La_pay_22 (fun z => absurd z (by decide)) (fun _ => (La_pay_25 (La_pay_27 (La_pay_31 (La_pay_33 (La_pay_34 (La_pay_35 (fun c35 => (La_pay_61 (La_pay_62 (La_pay_63 (fun c63 => ?_) (fun c63 => (La_pay_66 (La_pay_67 (La_pay_68 (Nat.le_of_ble_eq_true rfl) (La_isAmong_c (show (1 : Int32) = nI 1 from rfl) (by omega) (fun c68 => (La_pay_71 (fun z => absurd z (by decide)) (fun _ => (La_pay_74 (La_pay_76 (La_pay_78 (La_pay_79 ho (La_pay_82 (La_pay_83 (La_pay_84 (by decide) (La_pay_85 (La_pay_86 ?_)))))))))))) (fun c68 => (La_pay_71 (fun _ => ?_) (fun z => absurd z (by decide))))))))))))) (fun c35 => (La_pay_38 (La_pay_39 (La_pay_40 (Nat.le_of_ble_eq_true rfl) (La_isAmong_c (show (2 : Int32) = nI 2 from rfl) (by omega) (fun c40 => (La_pay_43 (fun z => absurd z (by decide)) (fun _ => (La_pay_46 (La_pay_48 (La_pay_50 (La_pay_51 ho (La_pay_54 (La_pay_55 (La_pay_56 (La_pay_58 ?_))))))))))) (fun c40 => (La_pay_43 (fun _ => (La_pay_61 (La_pay_62 (La_pay_63 (fun c63 => ?_) (fun c63 => (La_pay_66 (La_pay_67 (La_pay_68 (Nat.le_of_ble_eq_true rfl) (La_isAmong_c (show (1 : Int32) = nI 1 from rfl) (by omega) (fun c68 => (La_pay_71 (fun z => absurd z (by decide)) (fun _ => (La_pay_74 (La_pay_76 (La_pay_78 (La_pay_79 ho (La_pay_82 (La_pay_83 (La_pay_84 (by decide) (La_pay_85 (La_pay_86 ?_)))))))))))) (fun c68 => (La_pay_71 (fun _ => ?_) (fun z => absurd z (by decide))))))))))))) (fun z => absurd z (by decide)))))))))))))))))) (fun c19 => (La_pay_22 (fun _ => (La_pay_30 (La_pay_31 (La_pay_33 (La_pay_34 (La_pay_35 (fun c35 => (La_pay_61 (La_pay_62 (La_pay_63 (fun c63 => ?_) (fun c63 => (La_pay_66 (La_pay_67 (La_pay_68 (Nat.le_of_ble_eq_true rfl) (La_isAmong_c (show (1 : Int32) = nI 1 from rfl) (by omega) (fun c68 => (La_pay_71 (fun z => absurd z (by decide)) (fun _ => (La_pay_74 (La_pay_76 (La_pay_78 (La_pay_79 ho (La_pay_82 (La_pay_83 (La_pay_84 (by decide) (La_pay_85 (La_pay_86 ?_)))))))))))) (fun c68 => (La_pay_71 (fun _ => ?_) (fun z => absurd z (by decide))))))))))))) (fun c35 => (La_pay_38 (La_pay_39 (La_pay_40 (Nat.le_of_ble_eq_true rfl) (La_isAmong_c (show (2 : Int32) = nI 2 from rfl) (by omega) (fun c40 => (La_pay_43 (fun z => absurd z (by decide)) (fun _ => (La_pay_46 (La_pay_48 (La_pay_50 (La_pay_51 ho (La_pay_54 (La_pay_55 (La_pay_56 (La_pay_58 ?_))))))))))) (fun c40 => (La_pay_43 (fun _ => (La_pay_61 (La_pay_62 (La_pay_63 (fun c63 => ?_) (fun c63 => (La_pay_66 (La_pay_67 (La_pay_68 (Nat.le_of_ble_eq_true rfl) (La_isAmong_c (show (1 : Int32) = nI 1 from rfl) (by omega) (fun c68 => (La_pay_71 (fun z => absurd z (by decide)) (fun _ => (La_pay_74 (La_pay_76 (La_pay_78 (La_pay_79 ho (La_pay_82 (La_pay_83 (La_pay_84 (by decide) (La_pay_85 (La_pay_86 ?_)))))))))))) (fun c68 => (La_pay_71 (fun _ => ?_) (fun z => absurd z (by decide))))))))))))) (fun z => absurd z (by decide))))))))))))))) (fun z => absurd z (by decide))))))))))))))))))))
    all_goals first | exact absurd n2 (by assumption) | exact absurd (by assumption) n3 | (refine nx _ ?_; simp [sC_2, *]; done)
theorem La_pay_s (ho : isLa o) (e1 : x = nI dd) (h1 : dd < 6) (hw : h.1 o 2 = wg) (q : Q 0 (sC h o (ePay (ePay (ePay s dd kk wg 0) dd kk wg 1) dd kk wg 2))) : E X (d + 3) La_pay 0 [.ref o, .int x, .int kk, U0, U0, U0] [] (sC h o s) Q := by
  subst e1
  refine (La_pay_0 (La_pay_1 ?_))
  refine La_pay_i (c := 0) ho h1 (by omega) hw (fun _ _ => La_pay_i (c := 1) ho h1 (by omega) hw (fun _ _ => La_pay_i (c := 2) ho h1 (by omega) hw (fun _ _ => ?_)))
  refine (La_pay_2 (La_pay_3 (La_pay_4 (fun _ => (La_pay_113 ?_)) (fun z => absurd z (by decide)))))
  exact q
theorem La_lend_s (ho : isLa o) (e1 : x = nI dd) (h1 : dd < 6) (q : Q 0 (sC h o (eLoan (eRem s dd kk) dd kk))) : E X (d + 3) La_lend 0 [.ref o, .int x, .int kk, U0] [] (sC h o s) Q := by
  subst e1
  have nx : ∀ s, Q 0 (sC h o (eLoan s dd kk)) → E X (d + 3) La_lend 25 [.ref o, .int (nI dd), .int kk, U0] [] (sC h o s) Q := by
    intro s q
    unfold eLoan at q
    refine (La_lend_25 (La_lend_26 (La_lend_27 (Nat.le_of_ble_eq_true rfl) (La_isAmong_c (show (4 : Int32) = nI 4 from rfl) (by omega) (fun c27 => (La_lend_30 (fun z => absurd z (by decide)) (fun _ => (La_lend_33 (La_lend_34 (La_lend_35 (La_lend_36 (La_lend_37 ho (Nat.le_of_ble_eq_true rfl) (La_get_s ho (by first | assumption | exact rfl) (show (3 : Int32) = nI 3 from rfl) (by omega) (by omega) (La_lend_40 (La_lend_41 ?_))))))))))) (fun c27 => (La_lend_30 (fun _ => (La_lend_67 ?_)) (fun z => absurd z (by decide))))))))
    · rw [if_pos c27] at q
      refine (La_lend_42 (La_lend_43 (La_lend_44 ho (La_lend_47 (La_lend_48 (La_lend_49 ho (La_lend_52 (La_lend_53 (La_lend_54 (La_lend_56 (La_lend_57 ho (Nat.le_of_ble_eq_true rfl) ?_)))))))))))
      rw [sC_4, sC_p4]
      refine La_more_s (k := 8) ho rfl rfl h1 (by omega) ?_
      refine (La_lend_60 (La_lend_61 (La_lend_62 (La_lend_63 (La_lend_64 ho (Nat.le_of_ble_eq_true rfl) (La_receive_s ho (by first | assumption | exact rfl) (show (1 : Int32) = nI 1 from rfl) (by omega) (by omega) (La_lend_67 ?_)))))))
      simp only [eSet]
      rw [up_ne (show dd * 15 + (5 + 1) ≠ dd * 15 + 8 by omega)]
      exact q
    · rw [if_neg (by simpa using c27)] at q
      exact q
  unfold eRem at q
  refine (La_lend_0 (La_lend_1 (La_lend_2 (Nat.le_of_ble_eq_true rfl) (La_isAmong_c (show (5 : Int32) = nI 5 from rfl) (by omega) (fun c2 => (La_lend_5 (fun z => absurd z (by decide)) (fun _ => (La_lend_8 (La_lend_9 (La_lend_10 (La_lend_12 (La_lend_13 (La_lend_14 (La_lend_16 ho (Nat.le_of_ble_eq_true rfl) (La_get_s ho (by first | assumption | exact rfl) (show (8 : Int32) = nI 8 from rfl) (by omega) (by omega) (La_lend_19 (La_lend_20 (by decide) (La_lend_21 ho (Nat.le_of_ble_eq_true rfl) (La_put_s ho (by first | assumption | exact rfl) (show (8 : Int32) = nI 8 from rfl) (by omega) (by omega) (La_lend_24 ?_)))))))))))))))) (fun c2 => (La_lend_5 (fun _ => ?_) (fun z => absurd z (by decide))))))))
  · rw [if_pos c2] at q
    exact nx _ q
  · rw [if_neg (by simpa using c2)] at q
    exact nx _ q
theorem La_eat_s (ho : isLa o) (e1 : x = nI dd) (h1 : dd < 6) (q : Q (mn (s.1 (dd * 15 + (2 + 0))) (s.1 (dd * 15 + 0))) (sC h o (eEat s dd (mn (s.1 (dd * 15 + (2 + 0))) (s.1 (dd * 15 + 0)))))) : E X (d + 3) La_eatForNothing 0 [.ref o, .int x, U0] [] (sC h o s) Q := by
  subst e1
  refine (La_eatForNothing_0 (La_eatForNothing_1 (La_eatForNothing_2 (La_eatForNothing_3 ho (Nat.le_of_ble_eq_true rfl) (La_get_s ho (by first | assumption | exact rfl) (show (2 : Int32) = nI 2 from rfl) (by omega) (by omega) (La_eatForNothing_6 (La_eatForNothing_7 (La_eatForNothing_8 (La_eatForNothing_9 ho (Nat.le_of_ble_eq_true rfl) (La_get_s ho (by first | assumption | exact rfl) (show (0 : Int32) = nI 0 from rfl) (by omega) (by omega) (La_eatForNothing_12 (Nat.le_of_ble_eq_true rfl) (JM_min_c (La_eatForNothing_15 (La_eatForNothing_16 (La_eatForNothing_17 (La_eatForNothing_18 (La_eatForNothing_19 (La_eatForNothing_20 (La_eatForNothing_21 ho (Nat.le_of_ble_eq_true rfl) (La_more_s ho (by first | assumption | exact rfl) (show (0 : Int32) = nI 0 from rfl) (by omega) (by omega) (La_eatForNothing_24 (La_eatForNothing_25 ?_))))))))))))))))))))))
  rw [eEat, Int32.sub_eq_add_neg] at q
  exact q
theorem La_buy_s {p : Nat} (ho : isLa o) (e1 : x = nI dd) (e2 : y = nI c) (h1 : dd < 6) (hc : c < 3) (hp : s.1 (dd * 15 + 1) = nI p) (hp1 : 1 ≤ p) (hp2 : p ≤ 99) (q : Q (eT s dd c n) (sC h o (eBuy s dd c (eT s dd c n)))) : E X (d + 3) La_buy 0 [.ref o, .int x, .int y, .int n, U0, U0, U0] [] (sC h o s) Q := by
  subst e1; subst e2
  have ne : ¬ s.1 (dd * 15 + 1) = 0 := by
    rw [hp]
    intro y
    have := nI_inj (b := 0) y (by omega) (by omega)
    omega
  refine (La_buy_0 (La_buy_1 (La_buy_2 (La_buy_3 ho (Nat.le_of_ble_eq_true rfl) (La_get_s ho (by first | assumption | exact rfl) (show (1 : Int32) = nI 1 from rfl) (by omega) (by omega) (La_buy_6 (La_buy_8 (La_buy_10 (fun c10 => (La_buy_27 (La_buy_28 (La_buy_30 (La_buy_31 (La_buy_32 (La_buy_33 (La_buy_34 ho (Nat.le_of_ble_eq_true rfl) (La_get_s ho (by first | assumption | exact rfl) (show (0 : Int32) = nI 0 from rfl) (by omega) (by omega) (La_buy_37 (La_buy_39 (Nat.le_of_ble_eq_true rfl) (JM_min_c (La_buy_42 (Nat.le_of_ble_eq_true rfl) (JM_min_c (La_buy_45 ?_))))))))))))))) (fun c10 => (La_buy_13 (La_buy_14 (La_buy_15 (La_buy_16 (La_buy_17 (La_buy_18 ho (Nat.le_of_ble_eq_true rfl) (La_get_s ho (by first | assumption | exact rfl) (nI_addE (show (5 : Int32) = nI 5 from rfl) (by first | assumption | exact rfl)) (by omega) (by omega) (La_buy_21 (La_buy_23 ?_ (La_buy_24 (La_buy_28 (La_buy_30 (La_buy_31 (La_buy_32 (La_buy_33 (La_buy_34 ho (Nat.le_of_ble_eq_true rfl) (La_get_s ho (by first | assumption | exact rfl) (show (0 : Int32) = nI 0 from rfl) (by omega) (by omega) (La_buy_37 (La_buy_39 (Nat.le_of_ble_eq_true rfl) (JM_min_c (La_buy_42 (Nat.le_of_ble_eq_true rfl) (JM_min_c (La_buy_45 ?_))))))))))))))))))))))))))))))))
  · exfalso
    rw [hp] at c10
    exact absurd ((leN rfl (show (0 : Int32) = nI 0 from rfl) (by omega) (by omega)).mp c10) (by omega)
  · exact ne
  · refine (La_buy_47 (La_buy_48 (La_buy_49 (La_buy_50 (La_buy_52 (La_buy_53 ho (Nat.le_of_ble_eq_true rfl) (La_more_s ho (by first | assumption | exact rfl) (show (0 : Int32) = nI 0 from rfl) (by omega) (by omega) (La_buy_56 (La_buy_57 (La_buy_58 (La_buy_59 (La_buy_60 (La_buy_61 (La_buy_63 (La_buy_64 (La_buy_66 (La_buy_67 ho (Nat.le_of_ble_eq_true rfl) (La_more_s ho (by first | assumption | exact rfl) (nI_addE (show (5 : Int32) = nI 5 from rfl) (by first | assumption | exact rfl)) (by omega) (by omega) (La_buy_70 (La_buy_71 (La_buy_72 ho (La_buy_75 (La_buy_77 (La_buy_79 (La_buy_80 (La_buy_81 ho (La_buy_84 (La_buy_86 ?_))))))))))))))))))))))))))))
    rw [sC_5, sC_p5]
    simp only [eBuy, eT] at q
    simp only [eSet]
    rw [Int32.neg_mul, ← Int32.sub_eq_add_neg, ← Int32.sub_eq_add_neg, up_ne (show dd * 15 + (5 + c) ≠ dd * 15 + 0 by omega)]
    exact q
theorem La_suffer_s (ho : isLa o) (e1 : x = nI dd) (e2 : y = nI c) (h1 : dd < 6) (hc : c < 3) (q : Q n (sC h o (eSuf s dd c n))) : E X (d + 3) La_suffer 0 [.ref o, .int x, .int y, .int n, U0] [] (sC h o s) Q := by
  subst e1; subst e2
  refine (La_suffer_0 (La_suffer_1 (La_suffer_3 (by decide) (La_suffer_4 (La_suffer_6 (La_suffer_7 (La_suffer_8 (La_suffer_10 (La_suffer_11 (La_suffer_12 (La_suffer_13 ho (Nat.le_of_ble_eq_true rfl) (La_more_s ho (by first | assumption | exact rfl) (nI_addE (show (9 : Int32) = nI 9 from rfl) (by first | assumption | exact rfl)) (by omega) (by omega) (La_suffer_16 (La_suffer_17 (La_suffer_18 (La_suffer_20 (La_suffer_21 (La_suffer_22 (La_suffer_24 ho (Nat.le_of_ble_eq_true rfl) (La_more_s ho (by first | assumption | exact rfl) (nI_addE (show (12 : Int32) = nI 12 from rfl) (by first | assumption | exact rfl)) (by omega) (by omega) (La_suffer_27 (La_suffer_28 (La_suffer_29 (La_suffer_30 (La_suffer_31 (La_suffer_32 (La_suffer_34 (La_suffer_35 ho (Nat.le_of_ble_eq_true rfl) (La_more_s ho (by first | assumption | exact rfl) (nI_addE (show (2 : Int32) = nI 2 from rfl) (by first | assumption | exact rfl)) (by omega) (by omega) (La_suffer_38 (La_suffer_39 ?_)))))))))))))))))))))))))))))))
  simp only [eSuf] at q
  simp only [eSet]
  rw [← Int32.sub_eq_add_neg, up_ne (show dd * 15 + (12 + c) ≠ dd * 15 + (9 + c) by omega), up_ne (show dd * 15 + (2 + c) ≠ dd * 15 + (12 + c) by omega), up_ne (show dd * 15 + (2 + c) ≠ dd * 15 + (9 + c) by omega)]
  exact q
end SC
