section SG
variable {X : SX} {d S : Nat} {h : HH} {Q : Int32 → HH → Prop}
theorem Si_place_c {a b c : Nat} {x y z : Int32} (e1 : x = nI a) (e2 : y = nI b) (e3 : z = nI c) (k : Q (nI ((a * 4 + b) * 61 + c)) h) : E X d Si_place 0 [.int x, .int y, .int z] [] h Q := by
  subst e1; subst e2; subst e3
  refine (Si_place_0 (Si_place_1 (Si_place_2 (Si_place_3 (Si_place_4 (Si_place_5 (Si_place_7 (Si_place_8 (Si_place_9 (Si_place_10 ?_))))))))))
  rw [show (nI a * 4 + nI b) * 61 + nI c = nI ((a * 4 + b) * 61 + c) from nI_addE (nI_mulE (nI_addE (nI_mulE rfl (show (4 : Int32) = nI 4 from rfl)) rfl) (show (61 : Int32) = nI 61 from rfl)) rfl]
  exact k
theorem Si_add_c {p : Nat} {x n a : Int32} (hS : h.1 4 4 = nI S) (hS2 : S < 200) (e1 : x = nI p) (hp : p < 1464) (k : Q (nI (S + 1)) (pI (pI (pI (pI (pI h 5 S n) 6 S a) 7 S (h.1 8 p)) 4 4 (nI (S + 1))) 8 p (nI (S + 1)))) : E X d Si_add 0 [.ref 4, .int x, .int n, .int a] [] h Q := by
  refine (Si_add_0 (Si_add_1 (Si_add_4 (Si_add_5 (Si_add_8 (Si_add_9n (by repeat (first | assumption | exact rfl | refine fld_pI1 (by decide) ?_ | refine fld_pI2 (by decide) ?_ | refine fld_pI3 ?_ | refine nI_addE ?_ (show (1 : Int32) = nI 1 from rfl))) (by omega) (Si_add_10 (Si_add_11 (Si_add_14 (Si_add_15 (Si_add_18 (Si_add_19n (by repeat (first | assumption | exact rfl | refine fld_pI1 (by decide) ?_ | refine fld_pI2 (by decide) ?_ | refine fld_pI3 ?_ | refine nI_addE ?_ (show (1 : Int32) = nI 1 from rfl))) (by omega) (Si_add_20 (Si_add_21 (Si_add_24 (Si_add_25 (Si_add_28 (Si_add_29 (Si_add_32 (Si_add_33n (by first | assumption | exact rfl) (by omega) (Si_add_34n (by repeat (first | assumption | exact rfl | refine fld_pI1 (by decide) ?_ | refine fld_pI2 (by decide) ?_ | refine fld_pI3 ?_ | refine nI_addE ?_ (show (1 : Int32) = nI 1 from rfl))) (by omega) (Si_add_35 (Si_add_36 (Si_add_37 (Si_add_40 (Si_add_41 (Si_add_42 (Si_add_45 (Si_add_46 (Si_add_49 (Si_add_50 (Si_add_51 (Si_add_54n (by first | assumption | exact rfl) (by omega) (Si_add_55 (Si_add_56 (Si_add_59 ?_))))))))))))))))))))))))))))))))))))
  have e : h.1 4 4 + 1 = nI (S + 1) := by rw [hS]; exact nI_1 S
  simpa [pI1, e] using k
end SG
