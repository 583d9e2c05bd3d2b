section B9
variable {X : SX} {d : Nat} {h : HH} {Q : Int32 → HH → Prop}
theorem FC_done_c {v : Int32} (k : Q v (pI h 0 8 0)) : E X d FC_done 0 [.ref 0, .int v] [] h Q := by
  refine (FC_done_0 (FC_done_1 (FC_done_2 (FC_done_5 (FC_done_6 ?_)))))
  exact k
theorem FC_refuse_c {v : Int32} (k : Q (-1) (pI h 0 8 v)) : E X d FC_refuse 0 [.ref 0, .int v] [] h Q := by
  refine (FC_refuse_0 (FC_refuse_1 (FC_refuse_2 (FC_refuse_5 (FC_refuse_6 ?_)))))
  exact k
theorem FM_done_c {v : Int32} (k : Q v (pI h 57 0 0)) : E X d FM_done 0 [.ref 57, .int v] [] h Q := by
  refine (FM_done_0 (FM_done_1 (FM_done_2 (FM_done_5 (FM_done_6 ?_)))))
  exact k
theorem FM_refused_c {v : Int32} (k : Q (-1) (pI h 57 0 v)) : E X d FM_refused 0 [.ref 57, .int v] [] h Q := by
  refine (FM_refused_0 (FM_refused_1 (FM_refused_2 (FM_refused_5 (FM_refused_6 ?_)))))
  exact k
theorem FC_isDistrict_c {a : Int32} (t : inI a 0 (h.1 2 1 - 1) → Q 1 h) (f : ¬ inI a 0 (h.1 2 1 - 1) → Q 0 h) : E X (d + 1) FC_isDistrict 0 [.ref 0, .int a] [] h Q := by
  refine (FC_isDistrict_0 (FC_isDistrict_1 (FC_isDistrict_2 (FC_isDistrict_3 (FC_isDistrict_6 (FC_isDistrict_9 (FC_isDistrict_12 (FC_isDistrict_13 (FC_isDistrict_14 (Nat.le_of_ble_eq_true rfl) (FC_within_c (fun c14 => (FC_isDistrict_17 rfl ?_)) (fun c14 => (FC_isDistrict_17 rfl ?_))))))))))))
  all_goals first | exact t (by assumption) | exact f (by assumption)
theorem FC_isLine_c {a : Int32} (t : inI a 0 (h.1 9 1 - 1) → Q 1 h) (f : ¬ inI a 0 (h.1 9 1 - 1) → Q 0 h) : E X (d + 1) FC_isLine 0 [.ref 0, .int a] [] h Q := by
  refine (FC_isLine_0 (FC_isLine_1 (FC_isLine_2 (FC_isLine_3 (FC_isLine_6 (FC_isLine_9 (FC_isLine_12 (FC_isLine_13 (FC_isLine_14 (Nat.le_of_ble_eq_true rfl) (FC_within_c (fun c14 => (FC_isLine_17 rfl ?_)) (fun c14 => (FC_isLine_17 rfl ?_))))))))))))
  all_goals first | exact t (by assumption) | exact f (by assumption)
theorem FM_isDistrict_c {a : Int32} (t : inI a 0 (h.1 57 1 - 1) → Q 1 h) (f : ¬ inI a 0 (h.1 57 1 - 1) → Q 0 h) : E X (d + 1) FM_isDistrict 0 [.ref 57, .int a] [] h Q := by
  refine (FM_isDistrict_0 (FM_isDistrict_1 (FM_isDistrict_2 (FM_isDistrict_3 (FM_isDistrict_6 (FM_isDistrict_7 (FM_isDistrict_8 (Nat.le_of_ble_eq_true rfl) (FM_in_c (fun c8 => (FM_isDistrict_11 rfl ?_)) (fun c8 => (FM_isDistrict_11 rfl ?_))))))))))
  all_goals first | exact t (by assumption) | exact f (by assumption)
theorem FM_isLine_c {a : Int32} (t : inI a 0 (h.1 57 21 - 1) → Q 1 h) (f : ¬ inI a 0 (h.1 57 21 - 1) → Q 0 h) : E X (d + 1) FM_isLine 0 [.ref 57, .int a] [] h Q := by
  refine (FM_isLine_0 (FM_isLine_1 (FM_isLine_2 (FM_isLine_3 (FM_isLine_6 (FM_isLine_7 (FM_isLine_8 (Nat.le_of_ble_eq_true rfl) (FM_in_c (fun c8 => (FM_isLine_11 rfl ?_)) (fun c8 => (FM_isLine_11 rfl ?_))))))))))
  all_goals first | exact t (by assumption) | exact f (by assumption)
theorem FC_isClass_c {a : Int32} (t : inI a 0 2 → Q 1 h) (f : ¬ inI a 0 2 → Q 0 h) : E X (d + 1) FC_isClass 0 [.int a] [] h Q := by
  refine (FC_isClass_0 (FC_isClass_1 (FC_isClass_2 (FC_isClass_3 (Nat.le_of_ble_eq_true rfl) (FC_within_c (fun c3 => (FC_isClass_6 rfl ?_)) (fun c3 => (FC_isClass_6 rfl ?_)))))))
  all_goals first | exact t (by assumption) | exact f (by assumption)
theorem FC_isSort_c {a : Int32} (t : inI a 0 3 → Q 1 h) (f : ¬ inI a 0 3 → Q 0 h) : E X (d + 1) FC_isSort 0 [.int a] [] h Q := by
  refine (FC_isSort_0 (FC_isSort_1 (FC_isSort_2 (FC_isSort_3 (Nat.le_of_ble_eq_true rfl) (FC_within_c (fun c3 => (FC_isSort_6 rfl ?_)) (fun c3 => (FC_isSort_6 rfl ?_)))))))
  all_goals first | exact t (by assumption) | exact f (by assumption)
theorem FC_isKind_c {a : Int32} (t : inI a 0 5 → Q 1 h) (f : ¬ inI a 0 5 → Q 0 h) : E X (d + 1) FC_isKind 0 [.int a] [] h Q := by
  refine (FC_isKind_0 (FC_isKind_1 (FC_isKind_2 (FC_isKind_3 (Nat.le_of_ble_eq_true rfl) (FC_within_c (fun c3 => (FC_isKind_6 rfl ?_)) (fun c3 => (FC_isKind_6 rfl ?_)))))))
  all_goals first | exact t (by assumption) | exact f (by assumption)
theorem FC_isAnyWeek_c {a : Int32} (t : inI a 0 60 → Q 1 h) (f : ¬ inI a 0 60 → Q 0 h) : E X (d + 1) FC_isAnyWeek 0 [.int a] [] h Q := by
  refine (FC_isAnyWeek_0 (FC_isAnyWeek_1 (FC_isAnyWeek_2 (FC_isAnyWeek_4 (Nat.le_of_ble_eq_true rfl) (FC_within_c (fun c4 => (FC_isAnyWeek_7 rfl ?_)) (fun c4 => (FC_isAnyWeek_7 rfl ?_)))))))
  all_goals first | exact t (by assumption) | exact f (by assumption)
theorem FC_isSheet_c {a : Int32} (t : inI a 0 3 → Q 1 h) (f : ¬ inI a 0 3 → Q 0 h) : E X (d + 1) FC_isSheet 0 [.int a] [] h Q := by
  refine (FC_isSheet_0 (FC_isSheet_1 (FC_isSheet_2 (FC_isSheet_3 (Nat.le_of_ble_eq_true rfl) (FC_within_c (fun c3 => (FC_isSheet_6 rfl ?_)) (fun c3 => (FC_isSheet_6 rfl ?_)))))))
  all_goals first | exact t (by assumption) | exact f (by assumption)
theorem FC_isSheetSort_c {a : Int32} (t : inI a 0 2 → Q 1 h) (f : ¬ inI a 0 2 → Q 0 h) : E X (d + 1) FC_isSheetSort 0 [.int a] [] h Q := by
  refine (FC_isSheetSort_0 (FC_isSheetSort_1 (FC_isSheetSort_2 (FC_isSheetSort_3 (Nat.le_of_ble_eq_true rfl) (FC_within_c (fun c3 => (FC_isSheetSort_6 rfl ?_)) (fun c3 => (FC_isSheetSort_6 rfl ?_)))))))
  all_goals first | exact t (by assumption) | exact f (by assumption)
def spanI (t : Int32) : Int32 := t / 4 - t / 4 / 8 * 8
theorem Co_spanIn_c {a : Int32} (k : Q (spanI a) h) : E X d Co_spanIn 0 [.int a] [] h Q := by
  refine (Co_spanIn_0 (Co_spanIn_1 (Co_spanIn_2 (by decide) (Co_spanIn_3 (Co_spanIn_5 (by decide) (Co_spanIn_6 ?_))))))
  exact k
theorem FC_isTest_c {a : Int32} (t : inI a 0 95 ∧ inI (spanI a) 1 4 → Q 1 h) (f : ¬ (inI a 0 95 ∧ inI (spanI a) 1 4) → Q 0 h) : E X (d + 1) FC_isTest 0 [.int a] [] h Q := by
  refine (FC_isTest_0 (FC_isTest_1 (FC_isTest_2 (FC_isTest_4 (Nat.le_of_ble_eq_true rfl) (FC_within_c (fun c4 => (FC_isTest_7 (fun z => absurd z (by decide)) (fun _ => (FC_isTest_10 (FC_isTest_11 (Nat.le_of_ble_eq_true rfl) (Co_spanIn_c (FC_isTest_14 (FC_isTest_15 (FC_isTest_16 (Nat.le_of_ble_eq_true rfl) (FC_within_c (fun c16 => (FC_isTest_19 (fun z => absurd z (by decide)) (fun _ => (FC_isTest_22 (FC_isTest_23 (FC_isTest_27 rfl ?_)))))) (fun c16 => (FC_isTest_19 (fun _ => (FC_isTest_26 (FC_isTest_27 rfl ?_))) (fun z => absurd z (by decide)))))))))))))) (fun c4 => (FC_isTest_7 (fun _ => (FC_isTest_26 (FC_isTest_27 rfl ?_))) (fun z => absurd z (by decide)))))))))
  all_goals first | exact t ⟨by assumption, by assumption⟩ | exact f (fun z => by obtain ⟨_, _⟩ := z; contradiction)
theorem FC_canAskLoad_c {a n k : Int32} (t : inI a 0 (h.1 2 1 - 1) ∧ inI n 1 9999 ∧ inI k 0 99999 → Q 1 h) (f : ¬ (inI a 0 (h.1 2 1 - 1) ∧ inI n 1 9999 ∧ inI k 0 99999) → Q 0 h) : E X (d + 2) FC_canAskLoad 0 [.ref 0, .int a, .int n, .int k] [] h Q := by
  refine (FC_canAskLoad_0 (FC_canAskLoad_1 (FC_canAskLoad_2 (Nat.le_of_ble_eq_true rfl) (FC_isDistrict_c (fun c2 => (FC_canAskLoad_5 (fun z => absurd z (by decide)) (fun _ => (FC_canAskLoad_8 (FC_canAskLoad_9 (FC_canAskLoad_10 (FC_canAskLoad_13 (Nat.le_of_ble_eq_true rfl) (FC_within_c (fun c13 => (FC_canAskLoad_16 (fun z => absurd z (by decide)) (fun _ => (FC_canAskLoad_19 (FC_canAskLoad_20 (FC_canAskLoad_21 (FC_canAskLoad_23 (Nat.le_of_ble_eq_true rfl) (FC_within_c (fun c23 => (FC_canAskLoad_26 (fun z => absurd z (by decide)) (fun _ => (FC_canAskLoad_29 (FC_canAskLoad_30 (FC_canAskLoad_34 rfl ?_)))))) (fun c23 => (FC_canAskLoad_26 (fun _ => (FC_canAskLoad_33 (FC_canAskLoad_34 rfl ?_))) (fun z => absurd z (by decide)))))))))))) (fun c13 => (FC_canAskLoad_16 (fun _ => (FC_canAskLoad_33 (FC_canAskLoad_34 rfl ?_))) (fun z => absurd z (by decide)))))))))))) (fun c2 => (FC_canAskLoad_5 (fun _ => (FC_canAskLoad_33 (FC_canAskLoad_34 rfl ?_))) (fun z => absurd z (by decide))))))))
  all_goals first | exact t ⟨by assumption, by assumption, by assumption⟩ | exact f (fun z => by obtain ⟨_, _, _⟩ := z; contradiction)
theorem FM_isLoad_c {a n k : Int32} (t : inI a 0 (h.1 57 1 - 1) ∧ inI n 1 9999 ∧ inI k 0 99999 → Q 1 h) (f : ¬ (inI a 0 (h.1 57 1 - 1) ∧ inI n 1 9999 ∧ inI k 0 99999) → Q 0 h) : E X (d + 2) FM_isLoad 0 [.ref 57, .int a, .int n, .int k] [] h Q := by
  refine (FM_isLoad_0 (FM_isLoad_1 (FM_isLoad_2 (Nat.le_of_ble_eq_true rfl) (FM_isDistrict_c (fun c2 => (FM_isLoad_5 (fun z => absurd z (by decide)) (fun _ => (FM_isLoad_8 (FM_isLoad_9 (FM_isLoad_10 (FM_isLoad_13 (Nat.le_of_ble_eq_true rfl) (FM_in_c (fun c13 => (FM_isLoad_16 (fun z => absurd z (by decide)) (fun _ => (FM_isLoad_19 (FM_isLoad_20 (FM_isLoad_21 (FM_isLoad_23 (Nat.le_of_ble_eq_true rfl) (FM_in_c (fun c23 => (FM_isLoad_26 (fun z => absurd z (by decide)) (fun _ => (FM_isLoad_29 (FM_isLoad_30 (FM_isLoad_34 rfl ?_)))))) (fun c23 => (FM_isLoad_26 (fun _ => (FM_isLoad_33 (FM_isLoad_34 rfl ?_))) (fun z => absurd z (by decide)))))))))))) (fun c13 => (FM_isLoad_16 (fun _ => (FM_isLoad_33 (FM_isLoad_34 rfl ?_))) (fun z => absurd z (by decide)))))))))))) (fun c2 => (FM_isLoad_5 (fun _ => (FM_isLoad_33 (FM_isLoad_34 rfl ?_))) (fun z => absurd z (by decide))))))))
  all_goals first | exact t ⟨by assumption, by assumption, by assumption⟩ | exact f (fun z => by obtain ⟨_, _, _⟩ := z; contradiction)
theorem FM_isClass_c {a b : Int32} (t : inI a 0 (h.1 57 1 - 1) ∧ inI b 0 2 → Q 1 h) (f : ¬ (inI a 0 (h.1 57 1 - 1) ∧ inI b 0 2) → Q 0 h) : E X (d + 2) FM_isClass 0 [.ref 57, .int a, .int b] [] h Q := by
  refine (FM_isClass_0 (FM_isClass_1 (FM_isClass_2 (Nat.le_of_ble_eq_true rfl) (FM_isDistrict_c (fun c2 => (FM_isClass_5 (fun z => absurd z (by decide)) (fun _ => (FM_isClass_8 (FM_isClass_9 (FM_isClass_10 (FM_isClass_11 (Nat.le_of_ble_eq_true rfl) (FM_in_c (fun c11 => (FM_isClass_14 (fun z => absurd z (by decide)) (fun _ => (FM_isClass_17 (FM_isClass_18 (FM_isClass_22 rfl ?_)))))) (fun c11 => (FM_isClass_14 (fun _ => (FM_isClass_21 (FM_isClass_22 rfl ?_))) (fun z => absurd z (by decide)))))))))))) (fun c2 => (FM_isClass_5 (fun _ => (FM_isClass_21 (FM_isClass_22 rfl ?_))) (fun z => absurd z (by decide))))))))
  all_goals first | exact t ⟨by assumption, by assumption⟩ | exact f (fun z => by obtain ⟨_, _⟩ := z; contradiction)
theorem FM_isWeek_c {a : Int32} (t : inI a 0 60 → Q 1 h) (f : ¬ inI a 0 60 → Q 0 h) : E X (d + 1) FM_isWeek 0 [.int a] [] h Q := by
  refine (FM_isWeek_0 (FM_isWeek_1 (FM_isWeek_2 (FM_isWeek_4 (Nat.le_of_ble_eq_true rfl) (FM_in_c (fun c4 => (FM_isWeek_7 rfl ?_)) (fun c4 => (FM_isWeek_7 rfl ?_)))))))
  all_goals first | exact t (by assumption) | exact f (by assumption)
theorem La_get_c {o a b : Nat} (ho : isLa o) (ha : a < 6) (hb : b < 15) (k : Q (h.1 (o + 1) (a * 15 + b)) h) : E X d La_get 0 [.ref o, .int (nI a), .int (nI b)] [] h Q := by
  refine (La_get_0 (La_get_1 ho (La_get_4 (La_get_5 (La_get_7 (La_get_8 (La_get_9 (La_get_10n ho (nI_addE (nI_mulE (by first | assumption | exact rfl) (show (15 : Int32) = nI 15 from rfl)) (by first | assumption | exact rfl)) (by omega) (La_get_11 ?_)))))))))
  exact k
theorem La_put_c {o a b : Nat} {v : Int32} (ho : isLa o) (ha : a < 6) (hb : b < 15) (k : Q (h.1 (o + 1) (a * 15 + b)) (pI h (o + 1) (a * 15 + b) v)) : E X (d + 1) La_put 0 [.ref o, .int (nI a), .int (nI b), .int v, U0] [] h Q := by
  refine (La_put_0 (La_put_1 (La_put_2 (La_put_3 ho (Nat.le_of_ble_eq_true rfl) (La_get_c ho (by omega) (by omega) (La_put_6 (La_put_8 (La_put_9 ho (La_put_12 (La_put_13 (La_put_15 (La_put_16 (La_put_17 (La_put_18 (La_put_19n ho (nI_addE (nI_mulE (by first | assumption | exact rfl) (show (15 : Int32) = nI 15 from rfl)) (by first | assumption | exact rfl)) (by omega) (La_put_20 (La_put_22 ?_)))))))))))))))))
  exact k
theorem La_more_c {o a b : Nat} {v : Int32} (ho : isLa o) (ha : a < 6) (hb : b < 15) (k : Q 0 (pI h (o + 1) (a * 15 + b) (h.1 (o + 1) (a * 15 + b) + v))) : E X (d + 2) La_more 0 [.ref o, .int (nI a), .int (nI b), .int v] [] h Q := by
  refine (La_more_0 (La_more_1 (La_more_2 (La_more_3 (La_more_4 (La_more_5 (La_more_6 ho (Nat.le_of_ble_eq_true rfl) (La_get_c ho (by omega) (by omega) (La_more_9 (La_more_10 (La_more_11 ho (Nat.le_of_ble_eq_true rfl) (La_put_c ho (by omega) (by omega) (La_more_14 (La_more_15 ?_))))))))))))))
  exact k
end B9
