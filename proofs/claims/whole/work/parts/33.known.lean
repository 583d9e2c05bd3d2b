/-- the sign of place p as known at z among the first n told -/
def kn (h : HH) (z : Int32) (p : Nat) : Nat → Int32
  | 0 => -1000
  | n + 1 => if plc h n = p ∧ h.1 69 n ≤ z then h.1 70 n else kn h z p n
theorem lst_le (h : HH) (p : Nat) : ∀ n, lst h n p ≤ n
  | 0 => Nat.le_refl _
  | n + 1 => by
    unfold lst
    split
    · exact Nat.le_refl _
    · exact Nat.le_succ_of_le (lst_le h p n)
theorem kn_0 {h : HH} {z : Int32} {p : Nat} : ∀ {n : Nat}, lst h n p = 0 → kn h z p n = -1000
  | 0, _ => rfl
  | n + 1, e => by
    unfold lst at e
    by_cases y : plc h n = p
    · rw [if_pos y] at e; omega
    · rw [if_neg y] at e
      unfold kn
      rw [if_neg (fun q => y q.1)]
      exact kn_0 e
theorem kn_s {h : HH} {z : Int32} {p m : Nat} : ∀ {n : Nat}, lst h n p = m + 1 → m < n ∧ plc h m = p ∧ kn h z p n = if h.1 69 m ≤ z then h.1 70 m else kn h z p m
  | 0, e => by simp [lst] at e
  | n + 1, e => by
    unfold lst at e
    by_cases y : plc h n = p
    · rw [if_pos y] at e
      obtain rfl : n = m := by omega
      refine ⟨by omega, y, ?_⟩
      rw [kn]
      by_cases q : h.1 69 n ≤ z
      · rw [if_pos ⟨y, q⟩, if_pos q]
      · rw [if_neg (fun r => q r.2), if_neg q]
    · rw [if_neg y] at e
      obtain ⟨a, b, c⟩ := kn_s (z := z) e
      refine ⟨by omega, b, ?_⟩
      rw [kn, if_neg (fun r => y r.1)]
      exact c
section KN
variable {X : SX} {d S w p : Nat} {h : HH} {Q : Int32 → HH → Prop} {z a1 a2 a3 : Int32}
theorem Si_asKnown_l (hs : iSigns h 4 S w) : ∀ (n st : Nat), n ≤ S → st + lst h n p ≤ 200 → Q (kn h z p n) h → E X d Si_asKnown 24 [.ref 4, .int a1, .int a2, .int a3, .int z, .int (nI (lst h n p)), .int (nI st)] [] h Q := by
  intro n
  induction n using Nat.strongRecOn with
  | _ n ih =>
  intro st hn hst k
  cases e : lst h n p with
  | zero =>
    rw [kn_0 e] at k
    refine (Si_asKnown_24 (Si_asKnown_26 (Si_asKnown_29 (fun c29 => (Si_asKnown_78 (Si_asKnown_81 ?_))) (fun c29 => (Si_asKnown_32 (Si_asKnown_34 (fun c34 => (Si_asKnown_78 (Si_asKnown_81 ?_))) (fun c34 => ?_)))))))
    · exact k
    · exact k
    · exact absurd (Int32.le_refl _) c34
  | succ m =>
    obtain ⟨b1, b2, b3⟩ := kn_s (z := z) e
    have hS := hs.1
    obtain ⟨-, -, -, -, -, q1, q2, q3⟩ := hs.2.2.1 m (by omega)
    refine (Si_asKnown_24 (Si_asKnown_26 (Si_asKnown_29 (fun c29 => (Si_asKnown_78 (Si_asKnown_81 ?_))) (fun c29 => (Si_asKnown_32 (Si_asKnown_34 (fun c34 => (Si_asKnown_78 (Si_asKnown_81 ?_))) (fun c34 => (Si_asKnown_37 (Si_asKnown_38 (Si_asKnown_41 (Si_asKnown_43 (Si_asKnown_44 (Si_asKnown_45n (nI_subE (by first | assumption | exact rfl) (show (1 : Int32) = nI 1 from rfl) (by omega)) (by omega) (Si_asKnown_46 (Si_asKnown_48 (fun c48 => (Si_asKnown_61 (Si_asKnown_62 (Si_asKnown_65 (Si_asKnown_67 (Si_asKnown_68 (Si_asKnown_69n (nI_subE (by first | assumption | exact rfl) (show (1 : Int32) = nI 1 from rfl) (by omega)) (by omega) (Si_asKnown_70 (Si_asKnown_72 (Si_asKnown_75 ?_)))))))))) (fun c48 => (Si_asKnown_51 (Si_asKnown_52 (Si_asKnown_55 (Si_asKnown_57 (Si_asKnown_58 (Si_asKnown_59n (nI_subE (by first | assumption | exact rfl) (show (1 : Int32) = nI 1 from rfl) (by omega)) (by omega) ?_))))))))))))))))))))))
    · exact absurd ((leN (show (200 : Int32) = nI 200 from rfl) rfl (by omega) (by omega)).mp c29) (by omega)
    · exact absurd ((leN rfl (show (0 : Int32) = nI 0 from rfl) (by omega) (by omega)).mp c34) (by omega)
    · have e3 : h.1 7 (m + 1 - 1) = nI (lst h m p) := by rw [← b2]; exact q3
      rw [e3, nI_1]
      refine ih m b1 (st + 1) (by omega) ?_ ?_
      · have := lst_le h p m; omega
      · rw [b3, if_neg] at k
        · exact k
        · have : h.1 6 m = h.1 69 m := q2
          rw [← this]
          exact Int32.not_le.mpr c48
    · refine Si_asKnown_60 ?_
      rw [b3, if_pos] at k
      · have : h.1 5 m = h.1 70 m := q1
        rw [Nat.add_sub_cancel, this]; exact k
      · have : h.1 6 m = h.1 69 m := q2
        rw [← this]
        exact Int32.not_lt.mp c48
theorem Si_asKnown_c {i j c : Nat} {x y u : Int32} (hs : iSigns h 4 S w) (e1 : x = nI i) (e2 : y = nI j) (e3 : u = nI c) (h1 : i < 6) (h2 : j < 4) (h3 : c ≤ 60) (k : Q (kn h z ((i * 4 + j) * 61 + c) S) h) : E X (d + 1) Si_asKnown 0 [.ref 4, .int x, .int y, .int u, .int z, U0, U0] [] h Q := by
  subst e1; subst e2; subst e3
  refine (Si_asKnown_0 (Si_asKnown_1 (fun c1 => ?_) (fun c1 => (Si_asKnown_4 (Si_asKnown_7 ?_)))))
  · refine (Si_asKnown_8 (Si_asKnown_9 (Si_asKnown_12 (Si_asKnown_13 (Si_asKnown_14 (Si_asKnown_15 (Nat.le_of_ble_eq_true rfl) (Si_place_c (by first | assumption | exact rfl) (by first | assumption | exact rfl) (by first | assumption | exact rfl) ?_)))))))
    refine Si_asKnown_18n (k := (i * 4 + j) * 61 + c) rfl (by omega) ?_
    refine (Si_asKnown_19 (Si_asKnown_21 (Si_asKnown_22 ?_)))
    have e : h.1 8 ((i * 4 + j) * 61 + c) = nI (lst h S ((i * 4 + j) * 61 + c)) := hs.2.2.2 _ (by omega)
    rw [e]
    have := lst_le h ((i * 4 + j) * 61 + c) S
    have hS := hs.1
    exact Si_asKnown_l hs S 0 (Nat.le_refl _) (by omega) k
  · exact absurd ((leN (show (0 : Int32) = nI 0 from rfl) rfl (by omega) (by omega)).mpr (Nat.zero_le c)) c1
theorem Si_asKnown_neg {x y u : Int32} (e3 : u < 0) (k : Q (-1000) h) : E X (d + 1) Si_asKnown 0 [.ref 4, .int x, .int y, .int u, .int z, U0, U0] [] h Q := by
  refine (Si_asKnown_0 (Si_asKnown_1 (fun c1 => ?_) (fun c1 => (Si_asKnown_4 (Si_asKnown_7 ?_)))))
  · exact absurd e3 (Int32.not_lt.mpr c1)
  · exact k
theorem plc_of {k i j c : Nat} (e1 : isLt (h.1 66 k) 6) (e2 : isLt (h.1 67 k) 4) (e3 : isN (h.1 68 k) 0 60) (h1 : i < 6) (h2 : j < 4) (h3 : c ≤ 60) : plc h k = (i * 4 + j) * 61 + c ↔ h.1 66 k = nI i ∧ h.1 67 k = nI j ∧ h.1 68 k = nI c := by
  obtain ⟨x, x1, x2⟩ := e1
  obtain ⟨y, y1, y2⟩ := e2
  obtain ⟨u, -, u1, u2⟩ := e3
  unfold plc
  rw [x2, y2, u2, nI_clamp (by omega), nI_clamp (by omega), nI_clamp (by omega), nI_eq (by omega) (by omega), nI_eq (by omega) (by omega), nI_eq (by omega) (by omega)]
  omega
theorem FM_signKnown_l {i j c : Nat} (hs : iSigns h 4 S w) (h1 : i < 6) (h2 : j < 4) (h3 : c ≤ 60) : ∀ (n : Nat) (v : Int32), n ≤ S → v = nI n - 1 → Q (kn h z ((i * 4 + j) * 61 + c) n) h → E X d FM_signKnown 8 [.ref 57, .int (nI i), .int (nI j), .int (nI c), .int z, .int v] [] h Q := by
  intro n
  induction n with
  | zero =>
    intro v hn hv k
    subst hv
    refine (FM_signKnown_8 (FM_signKnown_10 (fun c10 => (FM_signKnown_72 (FM_signKnown_75 ?_))) (fun c10 => ?_)))
    · exact k
    · exact absurd (by decide : nI 0 - 1 < 0) c10
  | succ n ih =>
    intro v hn hv k
    obtain rfl : v = nI n := by rw [hv, ← nI_1]; simp
    clear hv
    have hS := hs.1
    obtain ⟨q1, q2, q3, -⟩ := hs.2.2.1 n (by omega)
    have pp := plc_of (h := h) q1 q2 q3 h1 h2 h3
    have nx : ¬ (plc h n = (i * 4 + j) * 61 + c ∧ h.1 69 n ≤ z) → E X d FM_signKnown 8 [.ref 57, .int (nI i), .int (nI j), .int (nI c), .int z, .int (nI n + -1)] [] h Q := fun q => by
      rw [kn, if_neg q] at k
      exact ih _ (by omega) (by rw [Int32.sub_eq_add_neg]) k
    refine (FM_signKnown_8 (FM_signKnown_10 (fun c10 => (FM_signKnown_72 (FM_signKnown_75 ?_))) (fun c10 => (FM_signKnown_13 (FM_signKnown_14 (FM_signKnown_17 (FM_signKnown_19n (by first | assumption | exact rfl) (by omega) (FM_signKnown_20 (FM_signKnown_21 (fun c21 => (FM_signKnown_66 (FM_signKnown_69 ?_))) (fun c21 => (FM_signKnown_24 (FM_signKnown_25 (FM_signKnown_28 (FM_signKnown_30n (by first | assumption | exact rfl) (by omega) (FM_signKnown_31 (FM_signKnown_32 (fun c32 => (FM_signKnown_66 (FM_signKnown_69 ?_))) (fun c32 => (FM_signKnown_35 (FM_signKnown_36 (FM_signKnown_39 (FM_signKnown_41n (by first | assumption | exact rfl) (by omega) (FM_signKnown_42 (FM_signKnown_43 (fun c43 => (FM_signKnown_66 (FM_signKnown_69 ?_))) (fun c43 => (FM_signKnown_46 (FM_signKnown_47 (FM_signKnown_50 (FM_signKnown_52n (by first | assumption | exact rfl) (by omega) (FM_signKnown_53 (FM_signKnown_55 (fun c55 => (FM_signKnown_66 (FM_signKnown_69 ?_))) (fun c55 => (FM_signKnown_58 (FM_signKnown_59 (FM_signKnown_62 (FM_signKnown_64n (by first | assumption | exact rfl) (by omega) (FM_signKnown_65 ?_))))))))))))))))))))))))))))))))))))
    · exact absurd ((ltN rfl (show (0 : Int32) = nI 0 from rfl) (by omega) (by omega)).mp c10) (by omega)
    · exact nx (fun q => c21 (pp.mp q.1).1)
    · exact nx (fun q => c32 (pp.mp q.1).2.1)
    · exact nx (fun q => c43 (pp.mp q.1).2.2)
    · exact nx (fun q => Int32.not_le.mpr c55 q.2)
    · rw [kn, if_pos ⟨pp.mpr ⟨c21, c32, c43⟩, Int32.not_lt.mp c55⟩] at k
      exact k
theorem FM_signKnown_c {i j c : Nat} {x y u : Int32} (hs : iSigns h 4 S w) (hS : h.1 57 15 = nI S) (e1 : x = nI i) (e2 : y = nI j) (e3 : u = nI c) (h1 : i < 6) (h2 : j < 4) (h3 : c ≤ 60) (k : Q (kn h z ((i * 4 + j) * 61 + c) S) h) : E X (d + 1) FM_signKnown 0 [.ref 57, .int x, .int y, .int u, .int z, U0] [] h Q := by
  subst e1; subst e2; subst e3
  refine (FM_signKnown_0 (FM_signKnown_1 (FM_signKnown_4 (FM_signKnown_5 (FM_signKnown_6 ?_)))))
  rw [hS]
  exact FM_signKnown_l hs h1 h2 h3 S _ (Nat.le_refl _) rfl k
end KN
section KP
set_option maxHeartbeats 1000000 in
theorem pp_known : PP_known := by
  intro X h a b c z hi
  obtain ⟨D, w, S, L, W, K, ⟨hm1, bk, hb, hb1, hb2⟩, hc, hl, hs, hn, hw, hk, ha, hx, hh, hp⟩ := id hi
  obtain ⟨hD6, hw60, hD, hD', hwk, hwk', hwg, hwg', hpd, hln, her, hS, hL, hW, hK⟩ := id hc
  have mD := hD'; have m6 := hD6; have h6 := hD6; have mL := hL; have hL := hn.2.1; have m12 := hn.1; have h12 := hn.1
  have k3 : ∀ {x : Int32}, inI x 0 3 ↔ isN x 0 3 := isN_of (l := 0) (m := 3) rfl rfl (by omega) (by omega)
  refine (FC_known_0 (FC_known_1 (FC_known_2 (Nat.le_of_ble_eq_true rfl) (FC_isDistrict_n hD h6 (fun j2 u2 e2 => (FC_known_5 (fun z => absurd z (by decide)) (fun _ => (FC_known_8 (FC_known_9 (Nat.le_of_ble_eq_true rfl) (FC_isSort_n (fun j9 u9 e9 => (FC_known_12 (fun z => absurd z (by decide)) (fun _ => (FC_known_15 (FC_known_16 (Nat.le_of_ble_eq_true rfl) (FC_isAnyWeek_n (fun j16 u16 e16 => (FC_known_19 (fun z => absurd z (by decide)) (fun _ => (FC_known_22 (FC_known_24 (Nat.le_of_ble_eq_true rfl) (FC_isAnyWeek_n (fun j24 u24 e24 => (FC_known_27 (fun _ => (FC_known_34 (FC_known_35 (FC_known_38 (FC_known_41 (FC_known_42 (FC_known_43 (FC_known_44 (FC_known_46 (Nat.le_of_ble_eq_true rfl) ?_))))))))) (fun z => absurd z (by decide)))) (fun n24 => (FC_known_27 (fun z => absurd z (by decide)) (fun _ => (FC_known_30 (FC_known_33 ?_))))))))))) (fun n16 => (FC_known_19 (fun _ => (FC_known_30 (FC_known_33 ?_))) (fun z => absurd z (by decide)))))))))) (fun n9 => (FC_known_12 (fun _ => (FC_known_30 (FC_known_33 ?_))) (fun z => absurd z (by decide)))))))))) (fun n2 => (FC_known_5 (fun _ => (FC_known_30 (FC_known_33 ?_))) (fun z => absurd z (by decide))))))))
  · refine Si_asKnown_c hs e2 e9 e16 (by omega) (by omega) u16 ?_
    refine (FC_known_49 ?_)
    refine (FM_known_0 (FM_known_1 (FM_known_2 (Nat.le_of_ble_eq_true rfl) (FM_isDistrict_n mD m6 (fun j2m u2m e2m => (FM_known_5 (fun z => absurd z (by decide)) (fun _ => (FM_known_8 (FM_known_9 (FM_known_10 (FM_known_11 (Nat.le_of_ble_eq_true rfl) (FM_in_c (fun c11 => (FM_known_14 (fun z => absurd z (by decide)) (fun _ => (FM_known_17 (FM_known_18 (Nat.le_of_ble_eq_true rfl) (FM_isWeek_n (fun j18m u18m e18m => (FM_known_21 (fun z => absurd z (by decide)) (fun _ => (FM_known_24 (FM_known_26 (Nat.le_of_ble_eq_true rfl) (FM_isWeek_n (fun j26m u26m e26m => (FM_known_29 (fun z => absurd z (by decide)) (fun _ => (FM_known_32 (FM_known_33 (FM_known_34 (FM_known_35 (FM_known_36 (FM_known_38 (Nat.le_of_ble_eq_true rfl) ?_))))))))) (fun n26m => (FM_known_29 (fun _ => (FM_known_44 (FM_known_47 ?_))) (fun z => absurd z (by decide)))))))))) (fun n18m => (FM_known_21 (fun _ => (FM_known_44 (FM_known_47 ?_))) (fun z => absurd z (by decide)))))))))) (fun c11 => (FM_known_14 (fun _ => (FM_known_44 (FM_known_47 ?_))) (fun z => absurd z (by decide)))))))))))) (fun n2m => (FM_known_5 (fun _ => (FM_known_44 (FM_known_47 ?_))) (fun z => absurd z (by decide))))))))
    · refine FM_signKnown_c hs hS e2 e9 e16 (by omega) (by omega) u16 ?_
      refine (FM_known_41 (FM_known_47 ?_))
      exact ⟨rfl, hi⟩
    · exact absurd ⟨j24, Nat.zero_le _, u24, e24⟩ n26m
    · exact absurd ⟨j16, Nat.zero_le _, u16, e16⟩ n18m
    · exact absurd (k3.mpr ⟨j9, Nat.zero_le _, u9, e9⟩) c11
    · exact absurd ⟨j2, u2, e2⟩ n2m
  · refine (FM_known_0 (FM_known_1 (FM_known_2 (Nat.le_of_ble_eq_true rfl) (FM_isDistrict_n mD m6 (fun j2m u2m e2m => (FM_known_5 (fun z => absurd z (by decide)) (fun _ => (FM_known_8 (FM_known_9 (FM_known_10 (FM_known_11 (Nat.le_of_ble_eq_true rfl) (FM_in_c (fun c11 => (FM_known_14 (fun z => absurd z (by decide)) (fun _ => (FM_known_17 (FM_known_18 (Nat.le_of_ble_eq_true rfl) (FM_isWeek_n (fun j18m u18m e18m => (FM_known_21 (fun z => absurd z (by decide)) (fun _ => (FM_known_24 (FM_known_26 (Nat.le_of_ble_eq_true rfl) (FM_isWeek_n (fun j26m u26m e26m => (FM_known_29 (fun z => absurd z (by decide)) (fun _ => (FM_known_32 (FM_known_33 (FM_known_34 (FM_known_35 (FM_known_36 (FM_known_38 (Nat.le_of_ble_eq_true rfl) ?_))))))))) (fun n26m => (FM_known_29 (fun _ => (FM_known_44 (FM_known_47 ?_))) (fun z => absurd z (by decide)))))))))) (fun n18m => (FM_known_21 (fun _ => (FM_known_44 (FM_known_47 ?_))) (fun z => absurd z (by decide)))))))))) (fun c11 => (FM_known_14 (fun _ => (FM_known_44 (FM_known_47 ?_))) (fun z => absurd z (by decide)))))))))))) (fun n2m => (FM_known_5 (fun _ => (FM_known_44 (FM_known_47 ?_))) (fun z => absurd z (by decide))))))))
    · exact absurd ⟨j26m, Nat.zero_le _, u26m, e26m⟩ n24
    all_goals exact ⟨rfl, hi⟩
  · refine (FM_known_0 (FM_known_1 (FM_known_2 (Nat.le_of_ble_eq_true rfl) (FM_isDistrict_n mD m6 (fun j2m u2m e2m => (FM_known_5 (fun z => absurd z (by decide)) (fun _ => (FM_known_8 (FM_known_9 (FM_known_10 (FM_known_11 (Nat.le_of_ble_eq_true rfl) (FM_in_c (fun c11 => (FM_known_14 (fun z => absurd z (by decide)) (fun _ => (FM_known_17 (FM_known_18 (Nat.le_of_ble_eq_true rfl) (FM_isWeek_n (fun j18m u18m e18m => (FM_known_21 (fun z => absurd z (by decide)) (fun _ => (FM_known_24 (FM_known_26 (Nat.le_of_ble_eq_true rfl) (FM_isWeek_n (fun j26m u26m e26m => (FM_known_29 (fun z => absurd z (by decide)) (fun _ => (FM_known_32 (FM_known_33 (FM_known_34 (FM_known_35 (FM_known_36 (FM_known_38 (Nat.le_of_ble_eq_true rfl) ?_))))))))) (fun n26m => (FM_known_29 (fun _ => (FM_known_44 (FM_known_47 ?_))) (fun z => absurd z (by decide)))))))))) (fun n18m => (FM_known_21 (fun _ => (FM_known_44 (FM_known_47 ?_))) (fun z => absurd z (by decide)))))))))) (fun c11 => (FM_known_14 (fun _ => (FM_known_44 (FM_known_47 ?_))) (fun z => absurd z (by decide)))))))))))) (fun n2m => (FM_known_5 (fun _ => (FM_known_44 (FM_known_47 ?_))) (fun z => absurd z (by decide))))))))
    · exact absurd ⟨j18m, Nat.zero_le _, u18m, e18m⟩ n16
    all_goals exact ⟨rfl, hi⟩
  · refine (FM_known_0 (FM_known_1 (FM_known_2 (Nat.le_of_ble_eq_true rfl) (FM_isDistrict_n mD m6 (fun j2m u2m e2m => (FM_known_5 (fun z => absurd z (by decide)) (fun _ => (FM_known_8 (FM_known_9 (FM_known_10 (FM_known_11 (Nat.le_of_ble_eq_true rfl) (FM_in_c (fun c11 => (FM_known_14 (fun z => absurd z (by decide)) (fun _ => (FM_known_17 (FM_known_18 (Nat.le_of_ble_eq_true rfl) (FM_isWeek_n (fun j18m u18m e18m => (FM_known_21 (fun z => absurd z (by decide)) (fun _ => (FM_known_24 (FM_known_26 (Nat.le_of_ble_eq_true rfl) (FM_isWeek_n (fun j26m u26m e26m => (FM_known_29 (fun z => absurd z (by decide)) (fun _ => (FM_known_32 (FM_known_33 (FM_known_34 (FM_known_35 (FM_known_36 (FM_known_38 (Nat.le_of_ble_eq_true rfl) ?_))))))))) (fun n26m => (FM_known_29 (fun _ => (FM_known_44 (FM_known_47 ?_))) (fun z => absurd z (by decide)))))))))) (fun n18m => (FM_known_21 (fun _ => (FM_known_44 (FM_known_47 ?_))) (fun z => absurd z (by decide)))))))))) (fun c11 => (FM_known_14 (fun _ => (FM_known_44 (FM_known_47 ?_))) (fun z => absurd z (by decide)))))))))))) (fun n2m => (FM_known_5 (fun _ => (FM_known_44 (FM_known_47 ?_))) (fun z => absurd z (by decide))))))))
    · exact absurd (k3.mp c11) n9
    all_goals exact ⟨rfl, hi⟩
  · refine (FM_known_0 (FM_known_1 (FM_known_2 (Nat.le_of_ble_eq_true rfl) (FM_isDistrict_n mD m6 (fun j2m u2m e2m => (FM_known_5 (fun z => absurd z (by decide)) (fun _ => (FM_known_8 (FM_known_9 (FM_known_10 (FM_known_11 (Nat.le_of_ble_eq_true rfl) (FM_in_c (fun c11 => (FM_known_14 (fun z => absurd z (by decide)) (fun _ => (FM_known_17 (FM_known_18 (Nat.le_of_ble_eq_true rfl) (FM_isWeek_n (fun j18m u18m e18m => (FM_known_21 (fun z => absurd z (by decide)) (fun _ => (FM_known_24 (FM_known_26 (Nat.le_of_ble_eq_true rfl) (FM_isWeek_n (fun j26m u26m e26m => (FM_known_29 (fun z => absurd z (by decide)) (fun _ => (FM_known_32 (FM_known_33 (FM_known_34 (FM_known_35 (FM_known_36 (FM_known_38 (Nat.le_of_ble_eq_true rfl) ?_))))))))) (fun n26m => (FM_known_29 (fun _ => (FM_known_44 (FM_known_47 ?_))) (fun z => absurd z (by decide)))))))))) (fun n18m => (FM_known_21 (fun _ => (FM_known_44 (FM_known_47 ?_))) (fun z => absurd z (by decide)))))))))) (fun c11 => (FM_known_14 (fun _ => (FM_known_44 (FM_known_47 ?_))) (fun z => absurd z (by decide)))))))))))) (fun n2m => (FM_known_5 (fun _ => (FM_known_44 (FM_known_47 ?_))) (fun z => absurd z (by decide))))))))
    · exact absurd ⟨j2m, u2m, e2m⟩ n2
    all_goals exact ⟨rfl, hi⟩
end KP
