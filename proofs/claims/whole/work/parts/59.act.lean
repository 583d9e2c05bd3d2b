abbrev AR : Type := Int32 × List Int32
def rO (q : Nat) (t x : Int32) : AR := if q = 2 then ((x + t) * 3, [30, 10]) else if q = 4 ∨ q = 5 then (x + t - 1, [51, 10]) else (x + t, [10])
def rP11 (K : Nat) (t x : Int32) : AR := ((rO K t x).1 * 2, 11 :: (rO K t x).2)
def rP20 (K : Nat) (t p x : Int32) : AR := ((rP11 K t x).1 + p, 20 :: (rP11 K t x).2)
def rP (q K : Nat) (n t p x : Int32) : AR := if q = 2 then ((rP20 K t p (x - n)).1, 31 :: (rP20 K t p (x - n)).2) else if q = 1 then rP20 K t p x else rP11 K t x
def rE (q K : Nat) (n t p x : Int32) : AR := if q = 3 then ((x - n) + (rO K t 0).1, 40 :: 12 :: (rO K t 0).2) else if q = 5 then ((x * 2 - n) ^^^ p, [61, 50, 12]) else if q = 4 then ((x - n) ^^^ p, [50, 12]) else (x - n, [12])
def rT13 (K : Nat) (n t p x : Int32) : AR := ((rP K K n t p x).1 ^^^ (rE K K n t p x).1, 13 :: ((rP K K n t p x).2 ++ (rE K K n t p x).2))
def rT (q K : Nat) (n t p x : Int32) : AR := if q = 1 ∨ q = 2 then ((rT13 K n t p (x + 1)).1, 21 :: (rT13 K n t p (x + 1)).2) else if q = 5 then ((rE K K n t p x).1 - (rT13 K n t p x).1, 60 :: ((rE K K n t p x).2 ++ (rT13 K n t p x).2)) else rT13 K n t p x
theorem rO_l (q : Nat) (t x : Int32) : (rO q t x).2.length ≤ 2 := by unfold rO; (repeat' split) <;> simp
theorem rP_l (q K : Nat) (n t p x : Int32) : (rP q K n t p x).2.length ≤ 5 := by
  unfold rP rP20 rP11
  have h1 := rO_l K t (x - n)
  have h2 := rO_l K t x
  (repeat' split) <;> simp <;> omega
theorem rE_l (q K : Nat) (n t p x : Int32) : (rE q K n t p x).2.length ≤ 4 := by
  unfold rE
  have h1 := rO_l K t 0
  (repeat' split) <;> simp <;> omega
theorem rT13_l (K : Nat) (n t p x : Int32) : (rT13 K n t p x).2.length ≤ 10 := by
  unfold rT13
  have h1 := rP_l K K n t p x
  have h2 := rE_l K K n t p x
  simp; omega
theorem rT_l (q K : Nat) (n t p x : Int32) : (rT q K n t p x).2.length ≤ 15 := by
  unfold rT
  have h1 := rT13_l K n t p x
  have h2 := rE_l K K n t p x
  have h3 := rT13_l K n t p (x + 1)
  (repeat' split) <;> simp <;> omega
def apC (h : HH) (r : Nat) : List Int32 → HH
  | [] => h
  | b :: bs => apC (pI (pI h 52 r b) 51 1 (nI (r + 1))) (r + 1) bs
theorem apC_app {l1 l2 : List Int32} : ∀ (h : HH) (r : Nat), apC h r (l1 ++ l2) = apC (apC h r l1) (r + l1.length) l2 := by
  induction l1 with
  | nil => intro h r; rfl
  | cons b bs ih =>
    intro h r
    show apC _ _ (bs ++ l2) = _
    rw [ih, show r + (b :: bs).length = r + 1 + bs.length by simp; omega]; rfl
def aS (h : HH) (r K : Nat) (n t p : Int32) : Prop := h.1 51 1 = nI r ∧ h.1 51 2 = n ∧ h.1 51 3 = nI K ∧ h.1 51 4 = t ∧ h.1 51 5 = p
theorem aS_s {h : HH} {r K : Nat} {n t p b : Int32} (H : aS h r K n t p) : aS (pI (pI h 52 r b) 51 1 (nI (r + 1))) (r + 1) K n t p := by
  obtain ⟨h1, h2, h3, h4, h5⟩ := H
  exact ⟨by simp [pI1], by simp [pI1, h2], by simp [pI1, h3], by simp [pI1, h4], by simp [pI1, h5]⟩
theorem aS_ap {K : Nat} {n t p : Int32} : ∀ (l : List Int32) (h : HH) (r : Nat), aS h r K n t p → aS (apC h r l) (r + l.length) K n t p
  | [], _, _, H => H
  | b :: bs, h, r, H => by
    show aS (apC _ _ bs) _ _ _ _ _
    rw [show r + (b :: bs).length = r + 1 + bs.length by simp; omega]
    exact aS_ap bs _ _ (aS_s H)
section AC
variable {X : SX} {d r K dep : Nat} {h : HH} {Q : Int32 → HH → Prop} {n t p x y : Int32}
theorem Ac_keep_c {b : Int32} (hr : h.1 51 1 = nI r) (h50 : r < 50) (k : Q 0 (pI (pI h 52 r b) 51 1 (nI (r + 1)))) : E X d Ac_keepInTrace 0 [.ref 51, .int b] [] h Q := by
  refine (Ac_keepInTrace_0 (Ac_keepInTrace_1 (Ac_keepInTrace_4 (Ac_keepInTrace_6 (fun c6 => (Ac_keepInTrace_29 ?_)) (fun c6 => (Ac_keepInTrace_9 (Ac_keepInTrace_10 (Ac_keepInTrace_13 (Ac_keepInTrace_14 (Ac_keepInTrace_17 (Ac_keepInTrace_18n (by repeat (first | assumption | exact rfl | refine fld_pI1 (by decide) ?_ | refine fld_pI2 (by decide) ?_ | refine fld_pI3 ?_ | refine nI_addE ?_ (show (1 : Int32) = nI 1 from rfl))) (by omega) (Ac_keepInTrace_19 (Ac_keepInTrace_20 (Ac_keepInTrace_21 (Ac_keepInTrace_24 (Ac_keepInTrace_25 (Ac_keepInTrace_26 (Ac_keepInTrace_29 ?_))))))))))))))))))
  · rw [hr] at c6; exact absurd ((leN (show (50 : Int32) = nI 50 from rfl) rfl (by omega) (by omega)).mp c6) (by omega)
  · have e : (pI h 52 r b).1 51 1 + 1 = nI (r + 1) := by rw [pI_r (by omega), hr, nI_1]
    rw [e]
    exact k
theorem Af_hit {q A up : Nat} {l : Int32} (hq : q < 6) (hA : A < 4) (hu : up < 6) (hd : dep < 40) (hb : kBodies (q * 4 + A) ≠ 0) (k : E X (d + 1) Ac_body 0 [.ref 51, .int (kBodies (q * 4 + A)), .int (kAbove q), .int x, .int (nI (dep + 1))] [] h Q) : E X (d + 2) Ac_from 6 [.ref 51, .int l, .int (nI A), .int x, .int (nI dep), .int (nI q), .int (nI up)] [] h Q := by
  have k2 : E X (d + 2) Ac_from 48 [.ref 51, .int l, .int (nI A), .int x, .int (nI dep), .int (nI q), .int (nI up)] [] h Q := by
    refine (Ac_from_48 (Ac_from_50 (Nat.le_of_ble_eq_true rfl) (FC_isKind_n (fun j50 u50 e50 => (Ac_from_53 (fun z => absurd z (by decide)) (fun _ => (Ac_from_56 (Ac_from_58 (Ac_from_60 (fun c60 => (Ac_from_65 (Ac_from_66 (Ac_from_69 (Ac_from_71 (Ac_from_72 (Ac_from_73 (Ac_from_74 (Ac_from_75n (nI_addE (nI_mulE (by first | assumption | exact rfl) (show (4 : Int32) = nI 4 from rfl)) (by first | assumption | exact rfl)) (by omega) (Ac_from_76 (Ac_from_79 (Ac_from_81n (by first | assumption | exact rfl) (by omega) (Ac_from_82 (Ac_from_83 (Ac_from_85 (Ac_from_86 (Ac_from_87 (Nat.le_of_ble_eq_true rfl) ?_))))))))))))))))) (fun c60 => (Ac_from_63 (Ac_from_64 ?_))))))))) (fun n50 => (Ac_from_53 (fun _ => (Ac_from_63 (Ac_from_64 ?_))) (fun z => absurd z (by decide)))))))
    · obtain rfl := nI_inj e50 (by omega) (by omega)
      rw [nI_1]
      refine E.cons k (fun r1 h1 z => ?_)
      refine (Ac_from_90 ?_)
      exact z
    · exact absurd ((ltN rfl (show (40 : Int32) = nI 40 from rfl) (by omega) (by omega)).mpr hd) c60
    · exact absurd ⟨q, by omega, by omega, rfl⟩ n50
  refine (Ac_from_6 (Ac_from_8 (Ac_from_10 (fun c10 => ?_) (fun c10 => (Ac_from_13 (Ac_from_15 (Nat.le_of_ble_eq_true rfl) (FC_isKind_n (fun j15 u15 e15 => (Ac_from_18 (fun z => absurd z (by decide)) (fun _ => (Ac_from_21 (Ac_from_24 (Ac_from_26 (Ac_from_27 (Ac_from_28 (Ac_from_29 (Ac_from_30n (nI_addE (nI_mulE (by first | assumption | exact rfl) (show (4 : Int32) = nI 4 from rfl)) (by first | assumption | exact rfl)) (by omega) (Ac_from_31 (fun c31 => ?_) (fun c31 => (Ac_from_34 (Ac_from_37 (Ac_from_39n (by first | assumption | exact rfl) (by omega) (Ac_from_40 (Ac_from_42 (Ac_from_45 ?_)))))))))))))))))) (fun n15 => (Ac_from_18 (fun _ => ?_) (fun z => absurd z (by decide)))))))))))
  · exact k2
  · exact k2
  · obtain rfl := nI_inj e15 (by omega) (by omega)
    exact absurd c31 hb
  · exact k2
theorem Af_miss {q A up : Nat} {l : Int32} (hq : q < 6) (hA : A < 4) (hu : up < 6) (hb : kBodies (q * 4 + A) = 0) (k : E X (d + 2) Ac_from 6 [.ref 51, .int l, .int (nI A), .int x, .int (nI dep), .int (kAbove q), .int (nI (up + 1))] [] h Q) : E X (d + 2) Ac_from 6 [.ref 51, .int l, .int (nI A), .int x, .int (nI dep), .int (nI q), .int (nI up)] [] h Q := by
  refine (Ac_from_6 (Ac_from_8 (Ac_from_10 (fun c10 => ?_) (fun c10 => (Ac_from_13 (Ac_from_15 (Nat.le_of_ble_eq_true rfl) (FC_isKind_n (fun j15 u15 e15 => (Ac_from_18 (fun z => absurd z (by decide)) (fun _ => (Ac_from_21 (Ac_from_24 (Ac_from_26 (Ac_from_27 (Ac_from_28 (Ac_from_29 (Ac_from_30n (nI_addE (nI_mulE (by first | assumption | exact rfl) (show (4 : Int32) = nI 4 from rfl)) (by first | assumption | exact rfl)) (by omega) (Ac_from_31 (fun c31 => ?_) (fun c31 => (Ac_from_34 (Ac_from_37 (Ac_from_39n (by first | assumption | exact rfl) (by omega) (Ac_from_40 (Ac_from_42 (Ac_from_45 ?_)))))))))))))))))) (fun n15 => (Ac_from_18 (fun _ => ?_) (fun z => absurd z (by decide)))))))))))
  · exact absurd ((leN (show (6 : Int32) = nI 6 from rfl) rfl (by omega) (by omega)).mp c10) (by omega)
  · obtain rfl := nI_inj e15 (by omega) (by omega)
    exact absurd hb c31
  · obtain rfl := nI_inj e15 (by omega) (by omega)
    rw [nI_1]; exact k
  · exact absurd ⟨q, by omega, by omega, rfl⟩ n15
theorem F_0_0 (hs : aS h r K n t p) (hr : r + 1 ≤ 50) (hd : dep + 1 ≤ 40) (hK : K < 6) (ey : y = nI 0) (k : Q (rO 0 t x).1 (apC h r (rO 0 t x).2)) : E X (d + 2) Ac_from 0 [.ref 51, .int y, .int 0, .int x, .int (nI dep), U0, U0] [] h Q := by
  subst ey
  refine (Ac_from_0 (Ac_from_1 (Ac_from_3 (Ac_from_4 ?_))))
  refine Af_hit (d := d + 0) (q := 0) (A := 0) (up := 0) (by omega) (by omega) (by omega) (by omega) (by decide) ?_
  refine (Ac_body_0 (Ac_body_1 (Ac_body_2 (Nat.le_of_ble_eq_true rfl) ?_)))
  refine Ac_keep_c (b := 10) hs.1 (by omega) ?_
  have s0 : aS _ _ _ _ _ _ := aS_s (b := 10) hs
  refine (Ac_body_5 (Ac_body_6 (fun _ => (Ac_body_228 (Ac_body_229 (Ac_body_230 (Ac_body_233 (Ac_body_234 ?_)))))) (fun z => absurd z (by decide)) (fun z => absurd z (by decide)) (fun z => absurd z (by decide)) (fun z => absurd z (by decide)) (fun z => absurd z (by decide)) (fun z => absurd z (by decide)) (fun z => absurd z (by decide)) (fun z => absurd z (by decide)) (fun z => absurd z (by decide)) (fun z => absurd z (by decide)) (fun z => absurd z (by decide)) (fun z => absurd z (by decide)) (fun z => absurd z (by decide)) (fun z => absurd z (by decide)) (fun z => absurd z (by decide)) (fun z => absurd z (by decide)) (fun z => absurd z (by decide)) (fun z => absurd z (by decide)) (fun z => absurd z (by decide)) (fun z => absurd z (by decide)) (fun z => absurd z (by decide)) (fun z => absurd z (by decide)) (fun z => absurd z (by decide)) (fun z => absurd z (by decide)) (fun z => absurd z (by decide)) (fun z => absurd z (by decide)) (fun z => absurd z (by decide)) (fun z => absurd z (by decide)) (fun z => absurd z (by decide)) (fun z => absurd z (by decide)) (fun z => absurd z (by decide)) (fun z => absurd z (by decide)) (fun z => absurd z (by decide)) (fun z => absurd z (by decide)) (fun z => absurd z (by decide)) (fun z => absurd z (by decide)) (fun z => absurd z (by decide)) (fun z => absurd z (by decide)) (fun z => absurd z (by decide)) (fun z => absurd z (by decide)) (fun z => absurd z (by decide)) (fun z => absurd z (by decide)) (fun z => absurd z (by decide)) (fun z => absurd z (by decide)) (fun z => absurd z (by decide)) (fun z => absurd z (by decide)) (fun z => absurd z (by decide)) (fun z => absurd z (by decide)) (fun z => absurd z (by decide)) (fun z => absurd z (by decide)) (fun z => absurd z (by decide)) (fun z => absurd z (by decide))))
  rw [s0.2.2.2.1]
  exact k
theorem F_1_0 (hs : aS h r K n t p) (hr : r + 1 ≤ 50) (hd : dep + 1 ≤ 40) (hK : K < 6) (ey : y = nI 1) (k : Q (rO 1 t x).1 (apC h r (rO 1 t x).2)) : E X (d + 2) Ac_from 0 [.ref 51, .int y, .int 0, .int x, .int (nI dep), U0, U0] [] h Q := by
  subst ey
  refine (Ac_from_0 (Ac_from_1 (Ac_from_3 (Ac_from_4 ?_))))
  refine Af_miss (q := 1) (A := 0) (up := 0) (by omega) (by omega) (by omega) (by decide) ?_
  refine Af_hit (d := d + 0) (q := 0) (A := 0) (up := 1) (by omega) (by omega) (by omega) (by omega) (by decide) ?_
  refine (Ac_body_0 (Ac_body_1 (Ac_body_2 (Nat.le_of_ble_eq_true rfl) ?_)))
  refine Ac_keep_c (b := 10) hs.1 (by omega) ?_
  have s0 : aS _ _ _ _ _ _ := aS_s (b := 10) hs
  refine (Ac_body_5 (Ac_body_6 (fun _ => (Ac_body_228 (Ac_body_229 (Ac_body_230 (Ac_body_233 (Ac_body_234 ?_)))))) (fun z => absurd z (by decide)) (fun z => absurd z (by decide)) (fun z => absurd z (by decide)) (fun z => absurd z (by decide)) (fun z => absurd z (by decide)) (fun z => absurd z (by decide)) (fun z => absurd z (by decide)) (fun z => absurd z (by decide)) (fun z => absurd z (by decide)) (fun z => absurd z (by decide)) (fun z => absurd z (by decide)) (fun z => absurd z (by decide)) (fun z => absurd z (by decide)) (fun z => absurd z (by decide)) (fun z => absurd z (by decide)) (fun z => absurd z (by decide)) (fun z => absurd z (by decide)) (fun z => absurd z (by decide)) (fun z => absurd z (by decide)) (fun z => absurd z (by decide)) (fun z => absurd z (by decide)) (fun z => absurd z (by decide)) (fun z => absurd z (by decide)) (fun z => absurd z (by decide)) (fun z => absurd z (by decide)) (fun z => absurd z (by decide)) (fun z => absurd z (by decide)) (fun z => absurd z (by decide)) (fun z => absurd z (by decide)) (fun z => absurd z (by decide)) (fun z => absurd z (by decide)) (fun z => absurd z (by decide)) (fun z => absurd z (by decide)) (fun z => absurd z (by decide)) (fun z => absurd z (by decide)) (fun z => absurd z (by decide)) (fun z => absurd z (by decide)) (fun z => absurd z (by decide)) (fun z => absurd z (by decide)) (fun z => absurd z (by decide)) (fun z => absurd z (by decide)) (fun z => absurd z (by decide)) (fun z => absurd z (by decide)) (fun z => absurd z (by decide)) (fun z => absurd z (by decide)) (fun z => absurd z (by decide)) (fun z => absurd z (by decide)) (fun z => absurd z (by decide)) (fun z => absurd z (by decide)) (fun z => absurd z (by decide)) (fun z => absurd z (by decide)) (fun z => absurd z (by decide))))
  rw [s0.2.2.2.1]
  exact k
theorem F_3_0 (hs : aS h r K n t p) (hr : r + 1 ≤ 50) (hd : dep + 1 ≤ 40) (hK : K < 6) (ey : y = nI 3) (k : Q (rO 3 t x).1 (apC h r (rO 3 t x).2)) : E X (d + 2) Ac_from 0 [.ref 51, .int y, .int 0, .int x, .int (nI dep), U0, U0] [] h Q := by
  subst ey
  refine (Ac_from_0 (Ac_from_1 (Ac_from_3 (Ac_from_4 ?_))))
  refine Af_miss (q := 3) (A := 0) (up := 0) (by omega) (by omega) (by omega) (by decide) ?_
  refine Af_hit (d := d + 0) (q := 0) (A := 0) (up := 1) (by omega) (by omega) (by omega) (by omega) (by decide) ?_
  refine (Ac_body_0 (Ac_body_1 (Ac_body_2 (Nat.le_of_ble_eq_true rfl) ?_)))
  refine Ac_keep_c (b := 10) hs.1 (by omega) ?_
  have s0 : aS _ _ _ _ _ _ := aS_s (b := 10) hs
  refine (Ac_body_5 (Ac_body_6 (fun _ => (Ac_body_228 (Ac_body_229 (Ac_body_230 (Ac_body_233 (Ac_body_234 ?_)))))) (fun z => absurd z (by decide)) (fun z => absurd z (by decide)) (fun z => absurd z (by decide)) (fun z => absurd z (by decide)) (fun z => absurd z (by decide)) (fun z => absurd z (by decide)) (fun z => absurd z (by decide)) (fun z => absurd z (by decide)) (fun z => absurd z (by decide)) (fun z => absurd z (by decide)) (fun z => absurd z (by decide)) (fun z => absurd z (by decide)) (fun z => absurd z (by decide)) (fun z => absurd z (by decide)) (fun z => absurd z (by decide)) (fun z => absurd z (by decide)) (fun z => absurd z (by decide)) (fun z => absurd z (by decide)) (fun z => absurd z (by decide)) (fun z => absurd z (by decide)) (fun z => absurd z (by decide)) (fun z => absurd z (by decide)) (fun z => absurd z (by decide)) (fun z => absurd z (by decide)) (fun z => absurd z (by decide)) (fun z => absurd z (by decide)) (fun z => absurd z (by decide)) (fun z => absurd z (by decide)) (fun z => absurd z (by decide)) (fun z => absurd z (by decide)) (fun z => absurd z (by decide)) (fun z => absurd z (by decide)) (fun z => absurd z (by decide)) (fun z => absurd z (by decide)) (fun z => absurd z (by decide)) (fun z => absurd z (by decide)) (fun z => absurd z (by decide)) (fun z => absurd z (by decide)) (fun z => absurd z (by decide)) (fun z => absurd z (by decide)) (fun z => absurd z (by decide)) (fun z => absurd z (by decide)) (fun z => absurd z (by decide)) (fun z => absurd z (by decide)) (fun z => absurd z (by decide)) (fun z => absurd z (by decide)) (fun z => absurd z (by decide)) (fun z => absurd z (by decide)) (fun z => absurd z (by decide)) (fun z => absurd z (by decide)) (fun z => absurd z (by decide)) (fun z => absurd z (by decide))))
  rw [s0.2.2.2.1]
  exact k
theorem F_2_0 (hs : aS h r K n t p) (hr : r + 2 ≤ 50) (hd : dep + 2 ≤ 40) (hK : K < 6) (ey : y = nI 2) (k : Q (rO 2 t x).1 (apC h r (rO 2 t x).2)) : E X (d + 4) Ac_from 0 [.ref 51, .int y, .int 0, .int x, .int (nI dep), U0, U0] [] h Q := by
  subst ey
  refine (Ac_from_0 (Ac_from_1 (Ac_from_3 (Ac_from_4 ?_))))
  refine Af_hit (d := d + 2) (q := 2) (A := 0) (up := 0) (by omega) (by omega) (by omega) (by omega) (by decide) ?_
  refine (Ac_body_0 (Ac_body_1 (Ac_body_2 (Nat.le_of_ble_eq_true rfl) ?_)))
  refine Ac_keep_c (b := 30) hs.1 (by omega) ?_
  have s0 : aS _ _ _ _ _ _ := aS_s (b := 30) hs
  refine (Ac_body_5 (Ac_body_6 (fun z => absurd z (by decide)) (fun z => absurd z (by decide)) (fun z => absurd z (by decide)) (fun z => absurd z (by decide)) (fun z => absurd z (by decide)) (fun z => absurd z (by decide)) (fun z => absurd z (by decide)) (fun z => absurd z (by decide)) (fun z => absurd z (by decide)) (fun z => absurd z (by decide)) (fun z => absurd z (by decide)) (fun z => absurd z (by decide)) (fun z => absurd z (by decide)) (fun z => absurd z (by decide)) (fun z => absurd z (by decide)) (fun z => absurd z (by decide)) (fun z => absurd z (by decide)) (fun z => absurd z (by decide)) (fun z => absurd z (by decide)) (fun z => absurd z (by decide)) (fun _ => (Ac_body_298 (Ac_body_299 (Ac_body_300 (Ac_body_301 (Ac_body_302 (Ac_body_304 (Nat.le_of_ble_eq_true rfl) ?_))))))) (fun z => absurd z (by decide)) (fun z => absurd z (by decide)) (fun z => absurd z (by decide)) (fun z => absurd z (by decide)) (fun z => absurd z (by decide)) (fun z => absurd z (by decide)) (fun z => absurd z (by decide)) (fun z => absurd z (by decide)) (fun z => absurd z (by decide)) (fun z => absurd z (by decide)) (fun z => absurd z (by decide)) (fun z => absurd z (by decide)) (fun z => absurd z (by decide)) (fun z => absurd z (by decide)) (fun z => absurd z (by decide)) (fun z => absurd z (by decide)) (fun z => absurd z (by decide)) (fun z => absurd z (by decide)) (fun z => absurd z (by decide)) (fun z => absurd z (by decide)) (fun z => absurd z (by decide)) (fun z => absurd z (by decide)) (fun z => absurd z (by decide)) (fun z => absurd z (by decide)) (fun z => absurd z (by decide)) (fun z => absurd z (by decide)) (fun z => absurd z (by decide)) (fun z => absurd z (by decide)) (fun z => absurd z (by decide)) (fun z => absurd z (by decide)) (fun z => absurd z (by decide)) (fun z => absurd z (by decide))))
  refine F_1_0 s0 (by omega) (by omega) hK rfl ?_
  refine (Ac_body_307 (Ac_body_308 (Ac_body_309 ?_)))
  exact k
theorem F_4_0 (hs : aS h r K n t p) (hr : r + 2 ≤ 50) (hd : dep + 2 ≤ 40) (hK : K < 6) (ey : y = nI 4) (k : Q (rO 4 t x).1 (apC h r (rO 4 t x).2)) : E X (d + 4) Ac_from 0 [.ref 51, .int y, .int 0, .int x, .int (nI dep), U0, U0] [] h Q := by
  subst ey
  refine (Ac_from_0 (Ac_from_1 (Ac_from_3 (Ac_from_4 ?_))))
  refine Af_hit (d := d + 2) (q := 4) (A := 0) (up := 0) (by omega) (by omega) (by omega) (by omega) (by decide) ?_
  refine (Ac_body_0 (Ac_body_1 (Ac_body_2 (Nat.le_of_ble_eq_true rfl) ?_)))
  refine Ac_keep_c (b := 51) hs.1 (by omega) ?_
  have s0 : aS _ _ _ _ _ _ := aS_s (b := 51) hs
  refine (Ac_body_5 (Ac_body_6 (fun z => absurd z (by decide)) (fun z => absurd z (by decide)) (fun z => absurd z (by decide)) (fun z => absurd z (by decide)) (fun z => absurd z (by decide)) (fun z => absurd z (by decide)) (fun z => absurd z (by decide)) (fun z => absurd z (by decide)) (fun z => absurd z (by decide)) (fun z => absurd z (by decide)) (fun z => absurd z (by decide)) (fun z => absurd z (by decide)) (fun z => absurd z (by decide)) (fun z => absurd z (by decide)) (fun z => absurd z (by decide)) (fun z => absurd z (by decide)) (fun z => absurd z (by decide)) (fun z => absurd z (by decide)) (fun z => absurd z (by decide)) (fun z => absurd z (by decide)) (fun z => absurd z (by decide)) (fun z => absurd z (by decide)) (fun z => absurd z (by decide)) (fun z => absurd z (by decide)) (fun z => absurd z (by decide)) (fun z => absurd z (by decide)) (fun z => absurd z (by decide)) (fun z => absurd z (by decide)) (fun z => absurd z (by decide)) (fun z => absurd z (by decide)) (fun z => absurd z (by decide)) (fun z => absurd z (by decide)) (fun z => absurd z (by decide)) (fun z => absurd z (by decide)) (fun z => absurd z (by decide)) (fun z => absurd z (by decide)) (fun z => absurd z (by decide)) (fun z => absurd z (by decide)) (fun z => absurd z (by decide)) (fun z => absurd z (by decide)) (fun z => absurd z (by decide)) (fun _ => (Ac_body_359 (Ac_body_360 (Ac_body_361 (Ac_body_362 (Ac_body_363 (Ac_body_365 (Nat.le_of_ble_eq_true rfl) ?_))))))) (fun z => absurd z (by decide)) (fun z => absurd z (by decide)) (fun z => absurd z (by decide)) (fun z => absurd z (by decide)) (fun z => absurd z (by decide)) (fun z => absurd z (by decide)) (fun z => absurd z (by decide)) (fun z => absurd z (by decide)) (fun z => absurd z (by decide)) (fun z => absurd z (by decide)) (fun z => absurd z (by decide))))
  refine F_0_0 s0 (by omega) (by omega) hK rfl ?_
  refine (Ac_body_368 (Ac_body_369 (Ac_body_370 ?_)))
  exact k
theorem F_5_0 (hs : aS h r K n t p) (hr : r + 2 ≤ 50) (hd : dep + 2 ≤ 40) (hK : K < 6) (ey : y = nI 5) (k : Q (rO 5 t x).1 (apC h r (rO 5 t x).2)) : E X (d + 4) Ac_from 0 [.ref 51, .int y, .int 0, .int x, .int (nI dep), U0, U0] [] h Q := by
  subst ey
  refine (Ac_from_0 (Ac_from_1 (Ac_from_3 (Ac_from_4 ?_))))
  refine Af_miss (q := 5) (A := 0) (up := 0) (by omega) (by omega) (by omega) (by decide) ?_
  refine Af_hit (d := d + 2) (q := 4) (A := 0) (up := 1) (by omega) (by omega) (by omega) (by omega) (by decide) ?_
  refine (Ac_body_0 (Ac_body_1 (Ac_body_2 (Nat.le_of_ble_eq_true rfl) ?_)))
  refine Ac_keep_c (b := 51) hs.1 (by omega) ?_
  have s0 : aS _ _ _ _ _ _ := aS_s (b := 51) hs
  refine (Ac_body_5 (Ac_body_6 (fun z => absurd z (by decide)) (fun z => absurd z (by decide)) (fun z => absurd z (by decide)) (fun z => absurd z (by decide)) (fun z => absurd z (by decide)) (fun z => absurd z (by decide)) (fun z => absurd z (by decide)) (fun z => absurd z (by decide)) (fun z => absurd z (by decide)) (fun z => absurd z (by decide)) (fun z => absurd z (by decide)) (fun z => absurd z (by decide)) (fun z => absurd z (by decide)) (fun z => absurd z (by decide)) (fun z => absurd z (by decide)) (fun z => absurd z (by decide)) (fun z => absurd z (by decide)) (fun z => absurd z (by decide)) (fun z => absurd z (by decide)) (fun z => absurd z (by decide)) (fun z => absurd z (by decide)) (fun z => absurd z (by decide)) (fun z => absurd z (by decide)) (fun z => absurd z (by decide)) (fun z => absurd z (by decide)) (fun z => absurd z (by decide)) (fun z => absurd z (by decide)) (fun z => absurd z (by decide)) (fun z => absurd z (by decide)) (fun z => absurd z (by decide)) (fun z => absurd z (by decide)) (fun z => absurd z (by decide)) (fun z => absurd z (by decide)) (fun z => absurd z (by decide)) (fun z => absurd z (by decide)) (fun z => absurd z (by decide)) (fun z => absurd z (by decide)) (fun z => absurd z (by decide)) (fun z => absurd z (by decide)) (fun z => absurd z (by decide)) (fun z => absurd z (by decide)) (fun _ => (Ac_body_359 (Ac_body_360 (Ac_body_361 (Ac_body_362 (Ac_body_363 (Ac_body_365 (Nat.le_of_ble_eq_true rfl) ?_))))))) (fun z => absurd z (by decide)) (fun z => absurd z (by decide)) (fun z => absurd z (by decide)) (fun z => absurd z (by decide)) (fun z => absurd z (by decide)) (fun z => absurd z (by decide)) (fun z => absurd z (by decide)) (fun z => absurd z (by decide)) (fun z => absurd z (by decide)) (fun z => absurd z (by decide)) (fun z => absurd z (by decide))))
  refine F_0_0 s0 (by omega) (by omega) hK rfl ?_
  refine (Ac_body_368 (Ac_body_369 (Ac_body_370 ?_)))
  exact k
theorem O_0 (hs : aS h r K n t p) (hr : r + 2 ≤ 50) (hd : dep + 2 ≤ 40) (hK : K < 6) (k : Q (rO K t x).1 (apC h r (rO K t x).2)) : E X (d + 5) Ac_own 0 [.ref 51, .int 0, .int x, .int (nI dep)] [] h Q := by
  refine (Ac_own_0 (Ac_own_1 (Ac_own_2 (Ac_own_5 (Ac_own_6 (Ac_own_7 (Ac_own_8 (Nat.le_of_ble_eq_true rfl) ?_)))))))
  rw [hs.2.2.1]
  have fin : ∀ r1 h1, (fun r2 h2 => Q r2 h2) r1 h1 → E X (d + 5) Ac_own 11 [.ref 51, .int 0, .int x, .int (nI dep)] [.int r1] h1 Q := fun r1 h1 z => by
    refine (Ac_own_11 ?_)
    exact z
  match K, hK, hs, k with
  | 0, _, hs, k => exact F_0_0 hs (by omega) (by omega) (by omega) rfl (fin _ _ k)
  | 1, _, hs, k => exact F_1_0 hs (by omega) (by omega) (by omega) rfl (fin _ _ k)
  | 2, _, hs, k => exact F_2_0 hs (by omega) (by omega) (by omega) rfl (fin _ _ k)
  | 3, _, hs, k => exact F_3_0 hs (by omega) (by omega) (by omega) rfl (fin _ _ k)
  | 4, _, hs, k => exact F_4_0 hs (by omega) (by omega) (by omega) rfl (fin _ _ k)
  | 5, _, hs, k => exact F_5_0 hs (by omega) (by omega) (by omega) rfl (fin _ _ k)
  | _ + 6, z, _, _ => exact absurd z (by omega)
theorem F_0_1 (hs : aS h r K n t p) (hr : r + 3 ≤ 50) (hd : dep + 3 ≤ 40) (hK : K < 6) (ey : y = nI 0) (k : Q (rP 0 K n t p x).1 (apC h r (rP 0 K n t p x).2)) : E X (d + 7) Ac_from 0 [.ref 51, .int y, .int 1, .int x, .int (nI dep), U0, U0] [] h Q := by
  subst ey
  refine (Ac_from_0 (Ac_from_1 (Ac_from_3 (Ac_from_4 ?_))))
  refine Af_hit (d := d + 5) (q := 0) (A := 1) (up := 0) (by omega) (by omega) (by omega) (by omega) (by decide) ?_
  refine (Ac_body_0 (Ac_body_1 (Ac_body_2 (Nat.le_of_ble_eq_true rfl) ?_)))
  refine Ac_keep_c (b := 11) hs.1 (by omega) ?_
  have s0 : aS _ _ _ _ _ _ := aS_s (b := 11) hs
  refine (Ac_body_5 (Ac_body_6 (fun z => absurd z (by decide)) (fun _ => (Ac_body_235 (Ac_body_236 (Ac_body_237 (Ac_body_238 (Ac_body_240 (Nat.le_of_ble_eq_true rfl) ?_)))))) (fun z => absurd z (by decide)) (fun z => absurd z (by decide)) (fun z => absurd z (by decide)) (fun z => absurd z (by decide)) (fun z => absurd z (by decide)) (fun z => absurd z (by decide)) (fun z => absurd z (by decide)) (fun z => absurd z (by decide)) (fun z => absurd z (by decide)) (fun z => absurd z (by decide)) (fun z => absurd z (by decide)) (fun z => absurd z (by decide)) (fun z => absurd z (by decide)) (fun z => absurd z (by decide)) (fun z => absurd z (by decide)) (fun z => absurd z (by decide)) (fun z => absurd z (by decide)) (fun z => absurd z (by decide)) (fun z => absurd z (by decide)) (fun z => absurd z (by decide)) (fun z => absurd z (by decide)) (fun z => absurd z (by decide)) (fun z => absurd z (by decide)) (fun z => absurd z (by decide)) (fun z => absurd z (by decide)) (fun z => absurd z (by decide)) (fun z => absurd z (by decide)) (fun z => absurd z (by decide)) (fun z => absurd z (by decide)) (fun z => absurd z (by decide)) (fun z => absurd z (by decide)) (fun z => absurd z (by decide)) (fun z => absurd z (by decide)) (fun z => absurd z (by decide)) (fun z => absurd z (by decide)) (fun z => absurd z (by decide)) (fun z => absurd z (by decide)) (fun z => absurd z (by decide)) (fun z => absurd z (by decide)) (fun z => absurd z (by decide)) (fun z => absurd z (by decide)) (fun z => absurd z (by decide)) (fun z => absurd z (by decide)) (fun z => absurd z (by decide)) (fun z => absurd z (by decide)) (fun z => absurd z (by decide)) (fun z => absurd z (by decide)) (fun z => absurd z (by decide)) (fun z => absurd z (by decide)) (fun z => absurd z (by decide)) (fun z => absurd z (by decide))))
  refine O_0 s0 (by omega) (by omega) hK ?_
  refine (Ac_body_243 (Ac_body_244 (Ac_body_245 ?_)))
  exact k
theorem F_1_1 (hs : aS h r K n t p) (hr : r + 4 ≤ 50) (hd : dep + 4 ≤ 40) (hK : K < 6) (ey : y = nI 1) (k : Q (rP 1 K n t p x).1 (apC h r (rP 1 K n t p x).2)) : E X (d + 9) Ac_from 0 [.ref 51, .int y, .int 1, .int x, .int (nI dep), U0, U0] [] h Q := by
  subst ey
  refine (Ac_from_0 (Ac_from_1 (Ac_from_3 (Ac_from_4 ?_))))
  refine Af_hit (d := d + 7) (q := 1) (A := 1) (up := 0) (by omega) (by omega) (by omega) (by omega) (by decide) ?_
  refine (Ac_body_0 (Ac_body_1 (Ac_body_2 (Nat.le_of_ble_eq_true rfl) ?_)))
  refine Ac_keep_c (b := 20) hs.1 (by omega) ?_
  have s0 : aS _ _ _ _ _ _ := aS_s (b := 20) hs
  refine (Ac_body_5 (Ac_body_6 (fun z => absurd z (by decide)) (fun z => absurd z (by decide)) (fun z => absurd z (by decide)) (fun z => absurd z (by decide)) (fun z => absurd z (by decide)) (fun z => absurd z (by decide)) (fun z => absurd z (by decide)) (fun z => absurd z (by decide)) (fun z => absurd z (by decide)) (fun z => absurd z (by decide)) (fun _ => (Ac_body_271 (Ac_body_272 (Ac_body_273 (Ac_body_274 (Ac_body_275 (Ac_body_277 (Nat.le_of_ble_eq_true rfl) ?_))))))) (fun z => absurd z (by decide)) (fun z => absurd z (by decide)) (fun z => absurd z (by decide)) (fun z => absurd z (by decide)) (fun z => absurd z (by decide)) (fun z => absurd z (by decide)) (fun z => absurd z (by decide)) (fun z => absurd z (by decide)) (fun z => absurd z (by decide)) (fun z => absurd z (by decide)) (fun z => absurd z (by decide)) (fun z => absurd z (by decide)) (fun z => absurd z (by decide)) (fun z => absurd z (by decide)) (fun z => absurd z (by decide)) (fun z => absurd z (by decide)) (fun z => absurd z (by decide)) (fun z => absurd z (by decide)) (fun z => absurd z (by decide)) (fun z => absurd z (by decide)) (fun z => absurd z (by decide)) (fun z => absurd z (by decide)) (fun z => absurd z (by decide)) (fun z => absurd z (by decide)) (fun z => absurd z (by decide)) (fun z => absurd z (by decide)) (fun z => absurd z (by decide)) (fun z => absurd z (by decide)) (fun z => absurd z (by decide)) (fun z => absurd z (by decide)) (fun z => absurd z (by decide)) (fun z => absurd z (by decide)) (fun z => absurd z (by decide)) (fun z => absurd z (by decide)) (fun z => absurd z (by decide)) (fun z => absurd z (by decide)) (fun z => absurd z (by decide)) (fun z => absurd z (by decide)) (fun z => absurd z (by decide)) (fun z => absurd z (by decide)) (fun z => absurd z (by decide)) (fun z => absurd z (by decide))))
  refine F_0_1 s0 (by omega) (by omega) hK rfl ?_
  refine (Ac_body_280 (Ac_body_281 (Ac_body_284 (Ac_body_285 ?_))))
  rw [(aS_ap _ _ _ s0).2.2.2.2]
  exact k
theorem F_2_1 (hs : aS h r K n t p) (hr : r + 5 ≤ 50) (hd : dep + 5 ≤ 40) (hK : K < 6) (ey : y = nI 2) (k : Q (rP 2 K n t p x).1 (apC h r (rP 2 K n t p x).2)) : E X (d + 11) Ac_from 0 [.ref 51, .int y, .int 1, .int x, .int (nI dep), U0, U0] [] h Q := by
  subst ey
  refine (Ac_from_0 (Ac_from_1 (Ac_from_3 (Ac_from_4 ?_))))
  refine Af_hit (d := d + 9) (q := 2) (A := 1) (up := 0) (by omega) (by omega) (by omega) (by omega) (by decide) ?_
  refine (Ac_body_0 (Ac_body_1 (Ac_body_2 (Nat.le_of_ble_eq_true rfl) ?_)))
  refine Ac_keep_c (b := 31) hs.1 (by omega) ?_
  have s0 : aS _ _ _ _ _ _ := aS_s (b := 31) hs
  refine (Ac_body_5 (Ac_body_6 (fun z => absurd z (by decide)) (fun z => absurd z (by decide)) (fun z => absurd z (by decide)) (fun z => absurd z (by decide)) (fun z => absurd z (by decide)) (fun z => absurd z (by decide)) (fun z => absurd z (by decide)) (fun z => absurd z (by decide)) (fun z => absurd z (by decide)) (fun z => absurd z (by decide)) (fun z => absurd z (by decide)) (fun z => absurd z (by decide)) (fun z => absurd z (by decide)) (fun z => absurd z (by decide)) (fun z => absurd z (by decide)) (fun z => absurd z (by decide)) (fun z => absurd z (by decide)) (fun z => absurd z (by decide)) (fun z => absurd z (by decide)) (fun z => absurd z (by decide)) (fun z => absurd z (by decide)) (fun _ => (Ac_body_310 (Ac_body_311 (Ac_body_312 (Ac_body_313 (Ac_body_314 (Ac_body_315 (Ac_body_318 (Ac_body_319 (Ac_body_321 (Nat.le_of_ble_eq_true rfl) ?_)))))))))) (fun z => absurd z (by decide)) (fun z => absurd z (by decide)) (fun z => absurd z (by decide)) (fun z => absurd z (by decide)) (fun z => absurd z (by decide)) (fun z => absurd z (by decide)) (fun z => absurd z (by decide)) (fun z => absurd z (by decide)) (fun z => absurd z (by decide)) (fun z => absurd z (by decide)) (fun z => absurd z (by decide)) (fun z => absurd z (by decide)) (fun z => absurd z (by decide)) (fun z => absurd z (by decide)) (fun z => absurd z (by decide)) (fun z => absurd z (by decide)) (fun z => absurd z (by decide)) (fun z => absurd z (by decide)) (fun z => absurd z (by decide)) (fun z => absurd z (by decide)) (fun z => absurd z (by decide)) (fun z => absurd z (by decide)) (fun z => absurd z (by decide)) (fun z => absurd z (by decide)) (fun z => absurd z (by decide)) (fun z => absurd z (by decide)) (fun z => absurd z (by decide)) (fun z => absurd z (by decide)) (fun z => absurd z (by decide)) (fun z => absurd z (by decide)) (fun z => absurd z (by decide))))
  rw [s0.2.1]
  refine F_1_1 s0 (by omega) (by omega) hK rfl ?_
  refine (Ac_body_324 ?_)
  exact k
theorem F_3_1 (hs : aS h r K n t p) (hr : r + 3 ≤ 50) (hd : dep + 3 ≤ 40) (hK : K < 6) (ey : y = nI 3) (k : Q (rP 3 K n t p x).1 (apC h r (rP 3 K n t p x).2)) : E X (d + 7) Ac_from 0 [.ref 51, .int y, .int 1, .int x, .int (nI dep), U0, U0] [] h Q := by
  subst ey
  refine (Ac_from_0 (Ac_from_1 (Ac_from_3 (Ac_from_4 ?_))))
  refine Af_miss (q := 3) (A := 1) (up := 0) (by omega) (by omega) (by omega) (by decide) ?_
  refine Af_hit (d := d + 5) (q := 0) (A := 1) (up := 1) (by omega) (by omega) (by omega) (by omega) (by decide) ?_
  refine (Ac_body_0 (Ac_body_1 (Ac_body_2 (Nat.le_of_ble_eq_true rfl) ?_)))
  refine Ac_keep_c (b := 11) hs.1 (by omega) ?_
  have s0 : aS _ _ _ _ _ _ := aS_s (b := 11) hs
  refine (Ac_body_5 (Ac_body_6 (fun z => absurd z (by decide)) (fun _ => (Ac_body_235 (Ac_body_236 (Ac_body_237 (Ac_body_238 (Ac_body_240 (Nat.le_of_ble_eq_true rfl) ?_)))))) (fun z => absurd z (by decide)) (fun z => absurd z (by decide)) (fun z => absurd z (by decide)) (fun z => absurd z (by decide)) (fun z => absurd z (by decide)) (fun z => absurd z (by decide)) (fun z => absurd z (by decide)) (fun z => absurd z (by decide)) (fun z => absurd z (by decide)) (fun z => absurd z (by decide)) (fun z => absurd z (by decide)) (fun z => absurd z (by decide)) (fun z => absurd z (by decide)) (fun z => absurd z (by decide)) (fun z => absurd z (by decide)) (fun z => absurd z (by decide)) (fun z => absurd z (by decide)) (fun z => absurd z (by decide)) (fun z => absurd z (by decide)) (fun z => absurd z (by decide)) (fun z => absurd z (by decide)) (fun z => absurd z (by decide)) (fun z => absurd z (by decide)) (fun z => absurd z (by decide)) (fun z => absurd z (by decide)) (fun z => absurd z (by decide)) (fun z => absurd z (by decide)) (fun z => absurd z (by decide)) (fun z => absurd z (by decide)) (fun z => absurd z (by decide)) (fun z => absurd z (by decide)) (fun z => absurd z (by decide)) (fun z => absurd z (by decide)) (fun z => absurd z (by decide)) (fun z => absurd z (by decide)) (fun z => absurd z (by decide)) (fun z => absurd z (by decide)) (fun z => absurd z (by decide)) (fun z => absurd z (by decide)) (fun z => absurd z (by decide)) (fun z => absurd z (by decide)) (fun z => absurd z (by decide)) (fun z => absurd z (by decide)) (fun z => absurd z (by decide)) (fun z => absurd z (by decide)) (fun z => absurd z (by decide)) (fun z => absurd z (by decide)) (fun z => absurd z (by decide)) (fun z => absurd z (by decide)) (fun z => absurd z (by decide)) (fun z => absurd z (by decide))))
  refine O_0 s0 (by omega) (by omega) hK ?_
  refine (Ac_body_243 (Ac_body_244 (Ac_body_245 ?_)))
  exact k
theorem F_4_1 (hs : aS h r K n t p) (hr : r + 3 ≤ 50) (hd : dep + 3 ≤ 40) (hK : K < 6) (ey : y = nI 4) (k : Q (rP 4 K n t p x).1 (apC h r (rP 4 K n t p x).2)) : E X (d + 7) Ac_from 0 [.ref 51, .int y, .int 1, .int x, .int (nI dep), U0, U0] [] h Q := by
  subst ey
  refine (Ac_from_0 (Ac_from_1 (Ac_from_3 (Ac_from_4 ?_))))
  refine Af_miss (q := 4) (A := 1) (up := 0) (by omega) (by omega) (by omega) (by decide) ?_
  refine Af_hit (d := d + 5) (q := 0) (A := 1) (up := 1) (by omega) (by omega) (by omega) (by omega) (by decide) ?_
  refine (Ac_body_0 (Ac_body_1 (Ac_body_2 (Nat.le_of_ble_eq_true rfl) ?_)))
  refine Ac_keep_c (b := 11) hs.1 (by omega) ?_
  have s0 : aS _ _ _ _ _ _ := aS_s (b := 11) hs
  refine (Ac_body_5 (Ac_body_6 (fun z => absurd z (by decide)) (fun _ => (Ac_body_235 (Ac_body_236 (Ac_body_237 (Ac_body_238 (Ac_body_240 (Nat.le_of_ble_eq_true rfl) ?_)))))) (fun z => absurd z (by decide)) (fun z => absurd z (by decide)) (fun z => absurd z (by decide)) (fun z => absurd z (by decide)) (fun z => absurd z (by decide)) (fun z => absurd z (by decide)) (fun z => absurd z (by decide)) (fun z => absurd z (by decide)) (fun z => absurd z (by decide)) (fun z => absurd z (by decide)) (fun z => absurd z (by decide)) (fun z => absurd z (by decide)) (fun z => absurd z (by decide)) (fun z => absurd z (by decide)) (fun z => absurd z (by decide)) (fun z => absurd z (by decide)) (fun z => absurd z (by decide)) (fun z => absurd z (by decide)) (fun z => absurd z (by decide)) (fun z => absurd z (by decide)) (fun z => absurd z (by decide)) (fun z => absurd z (by decide)) (fun z => absurd z (by decide)) (fun z => absurd z (by decide)) (fun z => absurd z (by decide)) (fun z => absurd z (by decide)) (fun z => absurd z (by decide)) (fun z => absurd z (by decide)) (fun z => absurd z (by decide)) (fun z => absurd z (by decide)) (fun z => absurd z (by decide)) (fun z => absurd z (by decide)) (fun z => absurd z (by decide)) (fun z => absurd z (by decide)) (fun z => absurd z (by decide)) (fun z => absurd z (by decide)) (fun z => absurd z (by decide)) (fun z => absurd z (by decide)) (fun z => absurd z (by decide)) (fun z => absurd z (by decide)) (fun z => absurd z (by decide)) (fun z => absurd z (by decide)) (fun z => absurd z (by decide)) (fun z => absurd z (by decide)) (fun z => absurd z (by decide)) (fun z => absurd z (by decide)) (fun z => absurd z (by decide)) (fun z => absurd z (by decide)) (fun z => absurd z (by decide)) (fun z => absurd z (by decide)) (fun z => absurd z (by decide))))
  refine O_0 s0 (by omega) (by omega) hK ?_
  refine (Ac_body_243 (Ac_body_244 (Ac_body_245 ?_)))
  exact k
theorem F_5_1 (hs : aS h r K n t p) (hr : r + 3 ≤ 50) (hd : dep + 3 ≤ 40) (hK : K < 6) (ey : y = nI 5) (k : Q (rP 5 K n t p x).1 (apC h r (rP 5 K n t p x).2)) : E X (d + 7) Ac_from 0 [.ref 51, .int y, .int 1, .int x, .int (nI dep), U0, U0] [] h Q := by
  subst ey
  refine (Ac_from_0 (Ac_from_1 (Ac_from_3 (Ac_from_4 ?_))))
  refine Af_miss (q := 5) (A := 1) (up := 0) (by omega) (by omega) (by omega) (by decide) ?_
  refine Af_miss (q := 4) (A := 1) (up := 1) (by omega) (by omega) (by omega) (by decide) ?_
  refine Af_hit (d := d + 5) (q := 0) (A := 1) (up := 2) (by omega) (by omega) (by omega) (by omega) (by decide) ?_
  refine (Ac_body_0 (Ac_body_1 (Ac_body_2 (Nat.le_of_ble_eq_true rfl) ?_)))
  refine Ac_keep_c (b := 11) hs.1 (by omega) ?_
  have s0 : aS _ _ _ _ _ _ := aS_s (b := 11) hs
  refine (Ac_body_5 (Ac_body_6 (fun z => absurd z (by decide)) (fun _ => (Ac_body_235 (Ac_body_236 (Ac_body_237 (Ac_body_238 (Ac_body_240 (Nat.le_of_ble_eq_true rfl) ?_)))))) (fun z => absurd z (by decide)) (fun z => absurd z (by decide)) (fun z => absurd z (by decide)) (fun z => absurd z (by decide)) (fun z => absurd z (by decide)) (fun z => absurd z (by decide)) (fun z => absurd z (by decide)) (fun z => absurd z (by decide)) (fun z => absurd z (by decide)) (fun z => absurd z (by decide)) (fun z => absurd z (by decide)) (fun z => absurd z (by decide)) (fun z => absurd z (by decide)) (fun z => absurd z (by decide)) (fun z => absurd z (by decide)) (fun z => absurd z (by decide)) (fun z => absurd z (by decide)) (fun z => absurd z (by decide)) (fun z => absurd z (by decide)) (fun z => absurd z (by decide)) (fun z => absurd z (by decide)) (fun z => absurd z (by decide)) (fun z => absurd z (by decide)) (fun z => absurd z (by decide)) (fun z => absurd z (by decide)) (fun z => absurd z (by decide)) (fun z => absurd z (by decide)) (fun z => absurd z (by decide)) (fun z => absurd z (by decide)) (fun z => absurd z (by decide)) (fun z => absurd z (by decide)) (fun z => absurd z (by decide)) (fun z => absurd z (by decide)) (fun z => absurd z (by decide)) (fun z => absurd z (by decide)) (fun z => absurd z (by decide)) (fun z => absurd z (by decide)) (fun z => absurd z (by decide)) (fun z => absurd z (by decide)) (fun z => absurd z (by decide)) (fun z => absurd z (by decide)) (fun z => absurd z (by decide)) (fun z => absurd z (by decide)) (fun z => absurd z (by decide)) (fun z => absurd z (by decide)) (fun z => absurd z (by decide)) (fun z => absurd z (by decide)) (fun z => absurd z (by decide)) (fun z => absurd z (by decide)) (fun z => absurd z (by decide)) (fun z => absurd z (by decide))))
  refine O_0 s0 (by omega) (by omega) hK ?_
  refine (Ac_body_243 (Ac_body_244 (Ac_body_245 ?_)))
  exact k
theorem O_1 (hs : aS h r K n t p) (hr : r + 5 ≤ 50) (hd : dep + 5 ≤ 40) (hK : K < 6) (k : Q (rP K K n t p x).1 (apC h r (rP K K n t p x).2)) : E X (d + 12) Ac_own 0 [.ref 51, .int 1, .int x, .int (nI dep)] [] h Q := by
  refine (Ac_own_0 (Ac_own_1 (Ac_own_2 (Ac_own_5 (Ac_own_6 (Ac_own_7 (Ac_own_8 (Nat.le_of_ble_eq_true rfl) ?_)))))))
  rw [hs.2.2.1]
  have fin : ∀ r1 h1, (fun r2 h2 => Q r2 h2) r1 h1 → E X (d + 12) Ac_own 11 [.ref 51, .int 1, .int x, .int (nI dep)] [.int r1] h1 Q := fun r1 h1 z => by
    refine (Ac_own_11 ?_)
    exact z
  match K, hK, hs, k with
  | 0, _, hs, k => exact F_0_1 hs (by omega) (by omega) (by omega) rfl (fin _ _ k)
  | 1, _, hs, k => exact F_1_1 hs (by omega) (by omega) (by omega) rfl (fin _ _ k)
  | 2, _, hs, k => exact F_2_1 hs (by omega) (by omega) (by omega) rfl (fin _ _ k)
  | 3, _, hs, k => exact F_3_1 hs (by omega) (by omega) (by omega) rfl (fin _ _ k)
  | 4, _, hs, k => exact F_4_1 hs (by omega) (by omega) (by omega) rfl (fin _ _ k)
  | 5, _, hs, k => exact F_5_1 hs (by omega) (by omega) (by omega) rfl (fin _ _ k)
  | _ + 6, z, _, _ => exact absurd z (by omega)
theorem F_0_2 (hs : aS h r K n t p) (hr : r + 1 ≤ 50) (hd : dep + 1 ≤ 40) (hK : K < 6) (ey : y = nI 0) (k : Q (rE 0 K n t p x).1 (apC h r (rE 0 K n t p x).2)) : E X (d + 2) Ac_from 0 [.ref 51, .int y, .int 2, .int x, .int (nI dep), U0, U0] [] h Q := by
  subst ey
  refine (Ac_from_0 (Ac_from_1 (Ac_from_3 (Ac_from_4 ?_))))
  refine Af_hit (d := d + 0) (q := 0) (A := 2) (up := 0) (by omega) (by omega) (by omega) (by omega) (by decide) ?_
  refine (Ac_body_0 (Ac_body_1 (Ac_body_2 (Nat.le_of_ble_eq_true rfl) ?_)))
  refine Ac_keep_c (b := 12) hs.1 (by omega) ?_
  have s0 : aS _ _ _ _ _ _ := aS_s (b := 12) hs
  refine (Ac_body_5 (Ac_body_6 (fun z => absurd z (by decide)) (fun z => absurd z (by decide)) (fun _ => (Ac_body_246 (Ac_body_247 (Ac_body_248 (Ac_body_251 (Ac_body_252 ?_)))))) (fun z => absurd z (by decide)) (fun z => absurd z (by decide)) (fun z => absurd z (by decide)) (fun z => absurd z (by decide)) (fun z => absurd z (by decide)) (fun z => absurd z (by decide)) (fun z => absurd z (by decide)) (fun z => absurd z (by decide)) (fun z => absurd z (by decide)) (fun z => absurd z (by decide)) (fun z => absurd z (by decide)) (fun z => absurd z (by decide)) (fun z => absurd z (by decide)) (fun z => absurd z (by decide)) (fun z => absurd z (by decide)) (fun z => absurd z (by decide)) (fun z => absurd z (by decide)) (fun z => absurd z (by decide)) (fun z => absurd z (by decide)) (fun z => absurd z (by decide)) (fun z => absurd z (by decide)) (fun z => absurd z (by decide)) (fun z => absurd z (by decide)) (fun z => absurd z (by decide)) (fun z => absurd z (by decide)) (fun z => absurd z (by decide)) (fun z => absurd z (by decide)) (fun z => absurd z (by decide)) (fun z => absurd z (by decide)) (fun z => absurd z (by decide)) (fun z => absurd z (by decide)) (fun z => absurd z (by decide)) (fun z => absurd z (by decide)) (fun z => absurd z (by decide)) (fun z => absurd z (by decide)) (fun z => absurd z (by decide)) (fun z => absurd z (by decide)) (fun z => absurd z (by decide)) (fun z => absurd z (by decide)) (fun z => absurd z (by decide)) (fun z => absurd z (by decide)) (fun z => absurd z (by decide)) (fun z => absurd z (by decide)) (fun z => absurd z (by decide)) (fun z => absurd z (by decide)) (fun z => absurd z (by decide)) (fun z => absurd z (by decide)) (fun z => absurd z (by decide)) (fun z => absurd z (by decide)) (fun z => absurd z (by decide))))
  rw [s0.2.1]
  exact k
theorem F_1_2 (hs : aS h r K n t p) (hr : r + 1 ≤ 50) (hd : dep + 1 ≤ 40) (hK : K < 6) (ey : y = nI 1) (k : Q (rE 1 K n t p x).1 (apC h r (rE 1 K n t p x).2)) : E X (d + 2) Ac_from 0 [.ref 51, .int y, .int 2, .int x, .int (nI dep), U0, U0] [] h Q := by
  subst ey
  refine (Ac_from_0 (Ac_from_1 (Ac_from_3 (Ac_from_4 ?_))))
  refine Af_miss (q := 1) (A := 2) (up := 0) (by omega) (by omega) (by omega) (by decide) ?_
  refine Af_hit (d := d + 0) (q := 0) (A := 2) (up := 1) (by omega) (by omega) (by omega) (by omega) (by decide) ?_
  refine (Ac_body_0 (Ac_body_1 (Ac_body_2 (Nat.le_of_ble_eq_true rfl) ?_)))
  refine Ac_keep_c (b := 12) hs.1 (by omega) ?_
  have s0 : aS _ _ _ _ _ _ := aS_s (b := 12) hs
  refine (Ac_body_5 (Ac_body_6 (fun z => absurd z (by decide)) (fun z => absurd z (by decide)) (fun _ => (Ac_body_246 (Ac_body_247 (Ac_body_248 (Ac_body_251 (Ac_body_252 ?_)))))) (fun z => absurd z (by decide)) (fun z => absurd z (by decide)) (fun z => absurd z (by decide)) (fun z => absurd z (by decide)) (fun z => absurd z (by decide)) (fun z => absurd z (by decide)) (fun z => absurd z (by decide)) (fun z => absurd z (by decide)) (fun z => absurd z (by decide)) (fun z => absurd z (by decide)) (fun z => absurd z (by decide)) (fun z => absurd z (by decide)) (fun z => absurd z (by decide)) (fun z => absurd z (by decide)) (fun z => absurd z (by decide)) (fun z => absurd z (by decide)) (fun z => absurd z (by decide)) (fun z => absurd z (by decide)) (fun z => absurd z (by decide)) (fun z => absurd z (by decide)) (fun z => absurd z (by decide)) (fun z => absurd z (by decide)) (fun z => absurd z (by decide)) (fun z => absurd z (by decide)) (fun z => absurd z (by decide)) (fun z => absurd z (by decide)) (fun z => absurd z (by decide)) (fun z => absurd z (by decide)) (fun z => absurd z (by decide)) (fun z => absurd z (by decide)) (fun z => absurd z (by decide)) (fun z => absurd z (by decide)) (fun z => absurd z (by decide)) (fun z => absurd z (by decide)) (fun z => absurd z (by decide)) (fun z => absurd z (by decide)) (fun z => absurd z (by decide)) (fun z => absurd z (by decide)) (fun z => absurd z (by decide)) (fun z => absurd z (by decide)) (fun z => absurd z (by decide)) (fun z => absurd z (by decide)) (fun z => absurd z (by decide)) (fun z => absurd z (by decide)) (fun z => absurd z (by decide)) (fun z => absurd z (by decide)) (fun z => absurd z (by decide)) (fun z => absurd z (by decide)) (fun z => absurd z (by decide)) (fun z => absurd z (by decide))))
  rw [s0.2.1]
  exact k
theorem F_2_2 (hs : aS h r K n t p) (hr : r + 1 ≤ 50) (hd : dep + 1 ≤ 40) (hK : K < 6) (ey : y = nI 2) (k : Q (rE 2 K n t p x).1 (apC h r (rE 2 K n t p x).2)) : E X (d + 2) Ac_from 0 [.ref 51, .int y, .int 2, .int x, .int (nI dep), U0, U0] [] h Q := by
  subst ey
  refine (Ac_from_0 (Ac_from_1 (Ac_from_3 (Ac_from_4 ?_))))
  refine Af_miss (q := 2) (A := 2) (up := 0) (by omega) (by omega) (by omega) (by decide) ?_
  refine Af_miss (q := 1) (A := 2) (up := 1) (by omega) (by omega) (by omega) (by decide) ?_
  refine Af_hit (d := d + 0) (q := 0) (A := 2) (up := 2) (by omega) (by omega) (by omega) (by omega) (by decide) ?_
  refine (Ac_body_0 (Ac_body_1 (Ac_body_2 (Nat.le_of_ble_eq_true rfl) ?_)))
  refine Ac_keep_c (b := 12) hs.1 (by omega) ?_
  have s0 : aS _ _ _ _ _ _ := aS_s (b := 12) hs
  refine (Ac_body_5 (Ac_body_6 (fun z => absurd z (by decide)) (fun z => absurd z (by decide)) (fun _ => (Ac_body_246 (Ac_body_247 (Ac_body_248 (Ac_body_251 (Ac_body_252 ?_)))))) (fun z => absurd z (by decide)) (fun z => absurd z (by decide)) (fun z => absurd z (by decide)) (fun z => absurd z (by decide)) (fun z => absurd z (by decide)) (fun z => absurd z (by decide)) (fun z => absurd z (by decide)) (fun z => absurd z (by decide)) (fun z => absurd z (by decide)) (fun z => absurd z (by decide)) (fun z => absurd z (by decide)) (fun z => absurd z (by decide)) (fun z => absurd z (by decide)) (fun z => absurd z (by decide)) (fun z => absurd z (by decide)) (fun z => absurd z (by decide)) (fun z => absurd z (by decide)) (fun z => absurd z (by decide)) (fun z => absurd z (by decide)) (fun z => absurd z (by decide)) (fun z => absurd z (by decide)) (fun z => absurd z (by decide)) (fun z => absurd z (by decide)) (fun z => absurd z (by decide)) (fun z => absurd z (by decide)) (fun z => absurd z (by decide)) (fun z => absurd z (by decide)) (fun z => absurd z (by decide)) (fun z => absurd z (by decide)) (fun z => absurd z (by decide)) (fun z => absurd z (by decide)) (fun z => absurd z (by decide)) (fun z => absurd z (by decide)) (fun z => absurd z (by decide)) (fun z => absurd z (by decide)) (fun z => absurd z (by decide)) (fun z => absurd z (by decide)) (fun z => absurd z (by decide)) (fun z => absurd z (by decide)) (fun z => absurd z (by decide)) (fun z => absurd z (by decide)) (fun z => absurd z (by decide)) (fun z => absurd z (by decide)) (fun z => absurd z (by decide)) (fun z => absurd z (by decide)) (fun z => absurd z (by decide)) (fun z => absurd z (by decide)) (fun z => absurd z (by decide)) (fun z => absurd z (by decide)) (fun z => absurd z (by decide))))
  rw [s0.2.1]
  exact k
theorem F_3_2 (hs : aS h r K n t p) (hr : r + 4 ≤ 50) (hd : dep + 3 ≤ 40) (hK : K < 6) (ey : y = nI 3) (k : Q (rE 3 K n t p x).1 (apC h r (rE 3 K n t p x).2)) : E X (d + 7) Ac_from 0 [.ref 51, .int y, .int 2, .int x, .int (nI dep), U0, U0] [] h Q := by
  subst ey
  refine (Ac_from_0 (Ac_from_1 (Ac_from_3 (Ac_from_4 ?_))))
  refine Af_hit (d := d + 5) (q := 3) (A := 2) (up := 0) (by omega) (by omega) (by omega) (by omega) (by decide) ?_
  refine (Ac_body_0 (Ac_body_1 (Ac_body_2 (Nat.le_of_ble_eq_true rfl) ?_)))
  refine Ac_keep_c (b := 40) hs.1 (by omega) ?_
  have s0 : aS _ _ _ _ _ _ := aS_s (b := 40) hs
  refine (Ac_body_5 (Ac_body_6 (fun z => absurd z (by decide)) (fun z => absurd z (by decide)) (fun z => absurd z (by decide)) (fun z => absurd z (by decide)) (fun z => absurd z (by decide)) (fun z => absurd z (by decide)) (fun z => absurd z (by decide)) (fun z => absurd z (by decide)) (fun z => absurd z (by decide)) (fun z => absurd z (by decide)) (fun z => absurd z (by decide)) (fun z => absurd z (by decide)) (fun z => absurd z (by decide)) (fun z => absurd z (by decide)) (fun z => absurd z (by decide)) (fun z => absurd z (by decide)) (fun z => absurd z (by decide)) (fun z => absurd z (by decide)) (fun z => absurd z (by decide)) (fun z => absurd z (by decide)) (fun z => absurd z (by decide)) (fun z => absurd z (by decide)) (fun z => absurd z (by decide)) (fun z => absurd z (by decide)) (fun z => absurd z (by decide)) (fun z => absurd z (by decide)) (fun z => absurd z (by decide)) (fun z => absurd z (by decide)) (fun z => absurd z (by decide)) (fun z => absurd z (by decide)) (fun _ => (Ac_body_325 (Ac_body_326 (Ac_body_327 (Ac_body_328 (Ac_body_329 (Ac_body_331 (Nat.le_of_ble_eq_true rfl) ?_))))))) (fun z => absurd z (by decide)) (fun z => absurd z (by decide)) (fun z => absurd z (by decide)) (fun z => absurd z (by decide)) (fun z => absurd z (by decide)) (fun z => absurd z (by decide)) (fun z => absurd z (by decide)) (fun z => absurd z (by decide)) (fun z => absurd z (by decide)) (fun z => absurd z (by decide)) (fun z => absurd z (by decide)) (fun z => absurd z (by decide)) (fun z => absurd z (by decide)) (fun z => absurd z (by decide)) (fun z => absurd z (by decide)) (fun z => absurd z (by decide)) (fun z => absurd z (by decide)) (fun z => absurd z (by decide)) (fun z => absurd z (by decide)) (fun z => absurd z (by decide)) (fun z => absurd z (by decide)) (fun z => absurd z (by decide))))
  refine F_0_2 s0 (by omega) (by omega) hK rfl ?_
  have s1 := aS_ap (rE 0 K n t p x).2 _ _ s0
  have l1 : (rE 0 K n t p x).2.length ≤ 1 := by simp [rE]
  refine (Ac_body_334 (Ac_body_335 (Ac_body_336 (Ac_body_337 (Ac_body_339 (Nat.le_of_ble_eq_true rfl) ?_)))))
  refine O_0 s1 (by omega) (by omega) hK ?_
  refine (Ac_body_342 (Ac_body_343 ?_))
  exact k
theorem F_4_2 (hs : aS h r K n t p) (hr : r + 2 ≤ 50) (hd : dep + 2 ≤ 40) (hK : K < 6) (ey : y = nI 4) (k : Q (rE 4 K n t p x).1 (apC h r (rE 4 K n t p x).2)) : E X (d + 4) Ac_from 0 [.ref 51, .int y, .int 2, .int x, .int (nI dep), U0, U0] [] h Q := by
  subst ey
  refine (Ac_from_0 (Ac_from_1 (Ac_from_3 (Ac_from_4 ?_))))
  refine Af_hit (d := d + 2) (q := 4) (A := 2) (up := 0) (by omega) (by omega) (by omega) (by omega) (by decide) ?_
  refine (Ac_body_0 (Ac_body_1 (Ac_body_2 (Nat.le_of_ble_eq_true rfl) ?_)))
  refine Ac_keep_c (b := 50) hs.1 (by omega) ?_
  have s0 : aS _ _ _ _ _ _ := aS_s (b := 50) hs
  refine (Ac_body_5 (Ac_body_6 (fun z => absurd z (by decide)) (fun z => absurd z (by decide)) (fun z => absurd z (by decide)) (fun z => absurd z (by decide)) (fun z => absurd z (by decide)) (fun z => absurd z (by decide)) (fun z => absurd z (by decide)) (fun z => absurd z (by decide)) (fun z => absurd z (by decide)) (fun z => absurd z (by decide)) (fun z => absurd z (by decide)) (fun z => absurd z (by decide)) (fun z => absurd z (by decide)) (fun z => absurd z (by decide)) (fun z => absurd z (by decide)) (fun z => absurd z (by decide)) (fun z => absurd z (by decide)) (fun z => absurd z (by decide)) (fun z => absurd z (by decide)) (fun z => absurd z (by decide)) (fun z => absurd z (by decide)) (fun z => absurd z (by decide)) (fun z => absurd z (by decide)) (fun z => absurd z (by decide)) (fun z => absurd z (by decide)) (fun z => absurd z (by decide)) (fun z => absurd z (by decide)) (fun z => absurd z (by decide)) (fun z => absurd z (by decide)) (fun z => absurd z (by decide)) (fun z => absurd z (by decide)) (fun z => absurd z (by decide)) (fun z => absurd z (by decide)) (fun z => absurd z (by decide)) (fun z => absurd z (by decide)) (fun z => absurd z (by decide)) (fun z => absurd z (by decide)) (fun z => absurd z (by decide)) (fun z => absurd z (by decide)) (fun z => absurd z (by decide)) (fun _ => (Ac_body_344 (Ac_body_345 (Ac_body_346 (Ac_body_347 (Ac_body_348 (Ac_body_350 (Nat.le_of_ble_eq_true rfl) ?_))))))) (fun z => absurd z (by decide)) (fun z => absurd z (by decide)) (fun z => absurd z (by decide)) (fun z => absurd z (by decide)) (fun z => absurd z (by decide)) (fun z => absurd z (by decide)) (fun z => absurd z (by decide)) (fun z => absurd z (by decide)) (fun z => absurd z (by decide)) (fun z => absurd z (by decide)) (fun z => absurd z (by decide)) (fun z => absurd z (by decide))))
  refine F_0_2 s0 (by omega) (by omega) hK rfl ?_
  refine (Ac_body_353 (Ac_body_354 (Ac_body_357 (Ac_body_358 ?_))))
  rw [(aS_ap _ _ _ s0).2.2.2.2]
  exact k
theorem F_5_2 (hs : aS h r K n t p) (hr : r + 3 ≤ 50) (hd : dep + 3 ≤ 40) (hK : K < 6) (ey : y = nI 5) (k : Q (rE 5 K n t p x).1 (apC h r (rE 5 K n t p x).2)) : E X (d + 6) Ac_from 0 [.ref 51, .int y, .int 2, .int x, .int (nI dep), U0, U0] [] h Q := by
  subst ey
  refine (Ac_from_0 (Ac_from_1 (Ac_from_3 (Ac_from_4 ?_))))
  refine Af_hit (d := d + 4) (q := 5) (A := 2) (up := 0) (by omega) (by omega) (by omega) (by omega) (by decide) ?_
  refine (Ac_body_0 (Ac_body_1 (Ac_body_2 (Nat.le_of_ble_eq_true rfl) ?_)))
  refine Ac_keep_c (b := 61) hs.1 (by omega) ?_
  have s0 : aS _ _ _ _ _ _ := aS_s (b := 61) hs
  refine (Ac_body_5 (Ac_body_6 (fun z => absurd z (by decide)) (fun z => absurd z (by decide)) (fun z => absurd z (by decide)) (fun z => absurd z (by decide)) (fun z => absurd z (by decide)) (fun z => absurd z (by decide)) (fun z => absurd z (by decide)) (fun z => absurd z (by decide)) (fun z => absurd z (by decide)) (fun z => absurd z (by decide)) (fun z => absurd z (by decide)) (fun z => absurd z (by decide)) (fun z => absurd z (by decide)) (fun z => absurd z (by decide)) (fun z => absurd z (by decide)) (fun z => absurd z (by decide)) (fun z => absurd z (by decide)) (fun z => absurd z (by decide)) (fun z => absurd z (by decide)) (fun z => absurd z (by decide)) (fun z => absurd z (by decide)) (fun z => absurd z (by decide)) (fun z => absurd z (by decide)) (fun z => absurd z (by decide)) (fun z => absurd z (by decide)) (fun z => absurd z (by decide)) (fun z => absurd z (by decide)) (fun z => absurd z (by decide)) (fun z => absurd z (by decide)) (fun z => absurd z (by decide)) (fun z => absurd z (by decide)) (fun z => absurd z (by decide)) (fun z => absurd z (by decide)) (fun z => absurd z (by decide)) (fun z => absurd z (by decide)) (fun z => absurd z (by decide)) (fun z => absurd z (by decide)) (fun z => absurd z (by decide)) (fun z => absurd z (by decide)) (fun z => absurd z (by decide)) (fun z => absurd z (by decide)) (fun z => absurd z (by decide)) (fun z => absurd z (by decide)) (fun z => absurd z (by decide)) (fun z => absurd z (by decide)) (fun z => absurd z (by decide)) (fun z => absurd z (by decide)) (fun z => absurd z (by decide)) (fun z => absurd z (by decide)) (fun z => absurd z (by decide)) (fun z => absurd z (by decide)) (fun _ => (Ac_body_390 (Ac_body_391 (Ac_body_392 (Ac_body_393 (Ac_body_394 (Ac_body_395 (Ac_body_396 (Ac_body_398 (Nat.le_of_ble_eq_true rfl) ?_))))))))) (fun z => absurd z (by decide))))
  refine F_4_2 s0 (by omega) (by omega) hK rfl ?_
  refine (Ac_body_401 ?_)
  exact k
theorem O_2 (hs : aS h r K n t p) (hr : r + 4 ≤ 50) (hd : dep + 3 ≤ 40) (hK : K < 6) (k : Q (rE K K n t p x).1 (apC h r (rE K K n t p x).2)) : E X (d + 8) Ac_own 0 [.ref 51, .int 2, .int x, .int (nI dep)] [] h Q := by
  refine (Ac_own_0 (Ac_own_1 (Ac_own_2 (Ac_own_5 (Ac_own_6 (Ac_own_7 (Ac_own_8 (Nat.le_of_ble_eq_true rfl) ?_)))))))
  rw [hs.2.2.1]
  have fin : ∀ r1 h1, (fun r2 h2 => Q r2 h2) r1 h1 → E X (d + 8) Ac_own 11 [.ref 51, .int 2, .int x, .int (nI dep)] [.int r1] h1 Q := fun r1 h1 z => by
    refine (Ac_own_11 ?_)
    exact z
  match K, hK, hs, k with
  | 0, _, hs, k => exact F_0_2 hs (by omega) (by omega) (by omega) rfl (fin _ _ k)
  | 1, _, hs, k => exact F_1_2 hs (by omega) (by omega) (by omega) rfl (fin _ _ k)
  | 2, _, hs, k => exact F_2_2 hs (by omega) (by omega) (by omega) rfl (fin _ _ k)
  | 3, _, hs, k => exact F_3_2 hs (by omega) (by omega) (by omega) rfl (fin _ _ k)
  | 4, _, hs, k => exact F_4_2 hs (by omega) (by omega) (by omega) rfl (fin _ _ k)
  | 5, _, hs, k => exact F_5_2 hs (by omega) (by omega) (by omega) rfl (fin _ _ k)
  | _ + 6, z, _, _ => exact absurd z (by omega)
theorem F_0_3 (hs : aS h r K n t p) (hr : r + 10 ≤ 50) (hd : dep + 6 ≤ 40) (hK : K < 6) (ey : y = nI 0) (k : Q (rT 0 K n t p x).1 (apC h r (rT 0 K n t p x).2)) : E X (d + 14) Ac_from 0 [.ref 51, .int y, .int 3, .int x, .int (nI dep), U0, U0] [] h Q := by
  subst ey
  refine (Ac_from_0 (Ac_from_1 (Ac_from_3 (Ac_from_4 ?_))))
  refine Af_hit (d := d + 12) (q := 0) (A := 3) (up := 0) (by omega) (by omega) (by omega) (by omega) (by decide) ?_
  refine (Ac_body_0 (Ac_body_1 (Ac_body_2 (Nat.le_of_ble_eq_true rfl) ?_)))
  refine Ac_keep_c (b := 13) hs.1 (by omega) ?_
  have s0 : aS _ _ _ _ _ _ := aS_s (b := 13) hs
  refine (Ac_body_5 (Ac_body_6 (fun z => absurd z (by decide)) (fun z => absurd z (by decide)) (fun z => absurd z (by decide)) (fun _ => (Ac_body_253 (Ac_body_254 (Ac_body_255 (Ac_body_256 (Ac_body_258 (Nat.le_of_ble_eq_true rfl) ?_)))))) (fun z => absurd z (by decide)) (fun z => absurd z (by decide)) (fun z => absurd z (by decide)) (fun z => absurd z (by decide)) (fun z => absurd z (by decide)) (fun z => absurd z (by decide)) (fun z => absurd z (by decide)) (fun z => absurd z (by decide)) (fun z => absurd z (by decide)) (fun z => absurd z (by decide)) (fun z => absurd z (by decide)) (fun z => absurd z (by decide)) (fun z => absurd z (by decide)) (fun z => absurd z (by decide)) (fun z => absurd z (by decide)) (fun z => absurd z (by decide)) (fun z => absurd z (by decide)) (fun z => absurd z (by decide)) (fun z => absurd z (by decide)) (fun z => absurd z (by decide)) (fun z => absurd z (by decide)) (fun z => absurd z (by decide)) (fun z => absurd z (by decide)) (fun z => absurd z (by decide)) (fun z => absurd z (by decide)) (fun z => absurd z (by decide)) (fun z => absurd z (by decide)) (fun z => absurd z (by decide)) (fun z => absurd z (by decide)) (fun z => absurd z (by decide)) (fun z => absurd z (by decide)) (fun z => absurd z (by decide)) (fun z => absurd z (by decide)) (fun z => absurd z (by decide)) (fun z => absurd z (by decide)) (fun z => absurd z (by decide)) (fun z => absurd z (by decide)) (fun z => absurd z (by decide)) (fun z => absurd z (by decide)) (fun z => absurd z (by decide)) (fun z => absurd z (by decide)) (fun z => absurd z (by decide)) (fun z => absurd z (by decide)) (fun z => absurd z (by decide)) (fun z => absurd z (by decide)) (fun z => absurd z (by decide)) (fun z => absurd z (by decide)) (fun z => absurd z (by decide)) (fun z => absurd z (by decide))))
  refine O_1 s0 (by omega) (by omega) hK ?_
  have s1 := aS_ap (rP K K n t p x).2 _ _ s0
  have l1 : (rP K K n t p x).2.length ≤ 5 := rP_l K K n t p x
  refine (Ac_body_261 (Ac_body_262 (Ac_body_263 (Ac_body_264 (Ac_body_266 (Nat.le_of_ble_eq_true rfl) ?_)))))
  refine O_2 s1 (by omega) (by omega) hK ?_
  refine (Ac_body_269 (Ac_body_270 ?_))
  have k2 := k
  simp only [rT, rT13, show ¬ (0 = 1 ∨ 0 = 2) by omega, if_false, show ¬ (0 = 5) by omega, if_false] at k2
  rw [show ∀ a b : List Int32, apC h r (13 :: (a ++ b)) = apC (apC h r (13 :: a)) (r + (13 :: a).length) b from fun a b => apC_app (l1 := 13 :: a) h r] at k2
  rw [show r + (13 :: (rP K K n t p x).2).length = r + 1 + (rP K K n t p x).2.length by simp; omega] at k2
  exact k2
theorem F_1_3 (hs : aS h r K n t p) (hr : r + 11 ≤ 50) (hd : dep + 7 ≤ 40) (hK : K < 6) (ey : y = nI 1) (k : Q (rT 1 K n t p x).1 (apC h r (rT 1 K n t p x).2)) : E X (d + 16) Ac_from 0 [.ref 51, .int y, .int 3, .int x, .int (nI dep), U0, U0] [] h Q := by
  subst ey
  refine (Ac_from_0 (Ac_from_1 (Ac_from_3 (Ac_from_4 ?_))))
  refine Af_hit (d := d + 14) (q := 1) (A := 3) (up := 0) (by omega) (by omega) (by omega) (by omega) (by decide) ?_
  refine (Ac_body_0 (Ac_body_1 (Ac_body_2 (Nat.le_of_ble_eq_true rfl) ?_)))
  refine Ac_keep_c (b := 21) hs.1 (by omega) ?_
  have s0 : aS _ _ _ _ _ _ := aS_s (b := 21) hs
  refine (Ac_body_5 (Ac_body_6 (fun z => absurd z (by decide)) (fun z => absurd z (by decide)) (fun z => absurd z (by decide)) (fun z => absurd z (by decide)) (fun z => absurd z (by decide)) (fun z => absurd z (by decide)) (fun z => absurd z (by decide)) (fun z => absurd z (by decide)) (fun z => absurd z (by decide)) (fun z => absurd z (by decide)) (fun z => absurd z (by decide)) (fun _ => (Ac_body_286 (Ac_body_287 (Ac_body_288 (Ac_body_289 (Ac_body_290 (Ac_body_291 (Ac_body_292 (Ac_body_294 (Nat.le_of_ble_eq_true rfl) ?_))))))))) (fun z => absurd z (by decide)) (fun z => absurd z (by decide)) (fun z => absurd z (by decide)) (fun z => absurd z (by decide)) (fun z => absurd z (by decide)) (fun z => absurd z (by decide)) (fun z => absurd z (by decide)) (fun z => absurd z (by decide)) (fun z => absurd z (by decide)) (fun z => absurd z (by decide)) (fun z => absurd z (by decide)) (fun z => absurd z (by decide)) (fun z => absurd z (by decide)) (fun z => absurd z (by decide)) (fun z => absurd z (by decide)) (fun z => absurd z (by decide)) (fun z => absurd z (by decide)) (fun z => absurd z (by decide)) (fun z => absurd z (by decide)) (fun z => absurd z (by decide)) (fun z => absurd z (by decide)) (fun z => absurd z (by decide)) (fun z => absurd z (by decide)) (fun z => absurd z (by decide)) (fun z => absurd z (by decide)) (fun z => absurd z (by decide)) (fun z => absurd z (by decide)) (fun z => absurd z (by decide)) (fun z => absurd z (by decide)) (fun z => absurd z (by decide)) (fun z => absurd z (by decide)) (fun z => absurd z (by decide)) (fun z => absurd z (by decide)) (fun z => absurd z (by decide)) (fun z => absurd z (by decide)) (fun z => absurd z (by decide)) (fun z => absurd z (by decide)) (fun z => absurd z (by decide)) (fun z => absurd z (by decide)) (fun z => absurd z (by decide)) (fun z => absurd z (by decide))))
  refine F_0_3 s0 (by omega) (by omega) hK rfl ?_
  refine (Ac_body_297 ?_)
  rw [rT, if_pos (by decide)] at k
  exact k
theorem F_2_3 (hs : aS h r K n t p) (hr : r + 11 ≤ 50) (hd : dep + 7 ≤ 40) (hK : K < 6) (ey : y = nI 2) (k : Q (rT 2 K n t p x).1 (apC h r (rT 2 K n t p x).2)) : E X (d + 16) Ac_from 0 [.ref 51, .int y, .int 3, .int x, .int (nI dep), U0, U0] [] h Q := by
  subst ey
  refine (Ac_from_0 (Ac_from_1 (Ac_from_3 (Ac_from_4 ?_))))
  refine Af_miss (q := 2) (A := 3) (up := 0) (by omega) (by omega) (by omega) (by decide) ?_
  refine Af_hit (d := d + 14) (q := 1) (A := 3) (up := 1) (by omega) (by omega) (by omega) (by omega) (by decide) ?_
  refine (Ac_body_0 (Ac_body_1 (Ac_body_2 (Nat.le_of_ble_eq_true rfl) ?_)))
  refine Ac_keep_c (b := 21) hs.1 (by omega) ?_
  have s0 : aS _ _ _ _ _ _ := aS_s (b := 21) hs
  refine (Ac_body_5 (Ac_body_6 (fun z => absurd z (by decide)) (fun z => absurd z (by decide)) (fun z => absurd z (by decide)) (fun z => absurd z (by decide)) (fun z => absurd z (by decide)) (fun z => absurd z (by decide)) (fun z => absurd z (by decide)) (fun z => absurd z (by decide)) (fun z => absurd z (by decide)) (fun z => absurd z (by decide)) (fun z => absurd z (by decide)) (fun _ => (Ac_body_286 (Ac_body_287 (Ac_body_288 (Ac_body_289 (Ac_body_290 (Ac_body_291 (Ac_body_292 (Ac_body_294 (Nat.le_of_ble_eq_true rfl) ?_))))))))) (fun z => absurd z (by decide)) (fun z => absurd z (by decide)) (fun z => absurd z (by decide)) (fun z => absurd z (by decide)) (fun z => absurd z (by decide)) (fun z => absurd z (by decide)) (fun z => absurd z (by decide)) (fun z => absurd z (by decide)) (fun z => absurd z (by decide)) (fun z => absurd z (by decide)) (fun z => absurd z (by decide)) (fun z => absurd z (by decide)) (fun z => absurd z (by decide)) (fun z => absurd z (by decide)) (fun z => absurd z (by decide)) (fun z => absurd z (by decide)) (fun z => absurd z (by decide)) (fun z => absurd z (by decide)) (fun z => absurd z (by decide)) (fun z => absurd z (by decide)) (fun z => absurd z (by decide)) (fun z => absurd z (by decide)) (fun z => absurd z (by decide)) (fun z => absurd z (by decide)) (fun z => absurd z (by decide)) (fun z => absurd z (by decide)) (fun z => absurd z (by decide)) (fun z => absurd z (by decide)) (fun z => absurd z (by decide)) (fun z => absurd z (by decide)) (fun z => absurd z (by decide)) (fun z => absurd z (by decide)) (fun z => absurd z (by decide)) (fun z => absurd z (by decide)) (fun z => absurd z (by decide)) (fun z => absurd z (by decide)) (fun z => absurd z (by decide)) (fun z => absurd z (by decide)) (fun z => absurd z (by decide)) (fun z => absurd z (by decide)) (fun z => absurd z (by decide))))
  refine F_0_3 s0 (by omega) (by omega) hK rfl ?_
  refine (Ac_body_297 ?_)
  rw [rT, if_pos (by decide)] at k
  exact k
theorem F_3_3 (hs : aS h r K n t p) (hr : r + 10 ≤ 50) (hd : dep + 6 ≤ 40) (hK : K < 6) (ey : y = nI 3) (k : Q (rT 3 K n t p x).1 (apC h r (rT 3 K n t p x).2)) : E X (d + 14) Ac_from 0 [.ref 51, .int y, .int 3, .int x, .int (nI dep), U0, U0] [] h Q := by
  subst ey
  refine (Ac_from_0 (Ac_from_1 (Ac_from_3 (Ac_from_4 ?_))))
  refine Af_miss (q := 3) (A := 3) (up := 0) (by omega) (by omega) (by omega) (by decide) ?_
  refine Af_hit (d := d + 12) (q := 0) (A := 3) (up := 1) (by omega) (by omega) (by omega) (by omega) (by decide) ?_
  refine (Ac_body_0 (Ac_body_1 (Ac_body_2 (Nat.le_of_ble_eq_true rfl) ?_)))
  refine Ac_keep_c (b := 13) hs.1 (by omega) ?_
  have s0 : aS _ _ _ _ _ _ := aS_s (b := 13) hs
  refine (Ac_body_5 (Ac_body_6 (fun z => absurd z (by decide)) (fun z => absurd z (by decide)) (fun z => absurd z (by decide)) (fun _ => (Ac_body_253 (Ac_body_254 (Ac_body_255 (Ac_body_256 (Ac_body_258 (Nat.le_of_ble_eq_true rfl) ?_)))))) (fun z => absurd z (by decide)) (fun z => absurd z (by decide)) (fun z => absurd z (by decide)) (fun z => absurd z (by decide)) (fun z => absurd z (by decide)) (fun z => absurd z (by decide)) (fun z => absurd z (by decide)) (fun z => absurd z (by decide)) (fun z => absurd z (by decide)) (fun z => absurd z (by decide)) (fun z => absurd z (by decide)) (fun z => absurd z (by decide)) (fun z => absurd z (by decide)) (fun z => absurd z (by decide)) (fun z => absurd z (by decide)) (fun z => absurd z (by decide)) (fun z => absurd z (by decide)) (fun z => absurd z (by decide)) (fun z => absurd z (by decide)) (fun z => absurd z (by decide)) (fun z => absurd z (by decide)) (fun z => absurd z (by decide)) (fun z => absurd z (by decide)) (fun z => absurd z (by decide)) (fun z => absurd z (by decide)) (fun z => absurd z (by decide)) (fun z => absurd z (by decide)) (fun z => absurd z (by decide)) (fun z => absurd z (by decide)) (fun z => absurd z (by decide)) (fun z => absurd z (by decide)) (fun z => absurd z (by decide)) (fun z => absurd z (by decide)) (fun z => absurd z (by decide)) (fun z => absurd z (by decide)) (fun z => absurd z (by decide)) (fun z => absurd z (by decide)) (fun z => absurd z (by decide)) (fun z => absurd z (by decide)) (fun z => absurd z (by decide)) (fun z => absurd z (by decide)) (fun z => absurd z (by decide)) (fun z => absurd z (by decide)) (fun z => absurd z (by decide)) (fun z => absurd z (by decide)) (fun z => absurd z (by decide)) (fun z => absurd z (by decide)) (fun z => absurd z (by decide)) (fun z => absurd z (by decide))))
  refine O_1 s0 (by omega) (by omega) hK ?_
  have s1 := aS_ap (rP K K n t p x).2 _ _ s0
  have l1 : (rP K K n t p x).2.length ≤ 5 := rP_l K K n t p x
  refine (Ac_body_261 (Ac_body_262 (Ac_body_263 (Ac_body_264 (Ac_body_266 (Nat.le_of_ble_eq_true rfl) ?_)))))
  refine O_2 s1 (by omega) (by omega) hK ?_
  refine (Ac_body_269 (Ac_body_270 ?_))
  have k2 := k
  simp only [rT, rT13, show ¬ (3 = 1 ∨ 3 = 2) by omega, if_false, show ¬ (3 = 5) by omega, if_false] at k2
  rw [show ∀ a b : List Int32, apC h r (13 :: (a ++ b)) = apC (apC h r (13 :: a)) (r + (13 :: a).length) b from fun a b => apC_app (l1 := 13 :: a) h r] at k2
  rw [show r + (13 :: (rP K K n t p x).2).length = r + 1 + (rP K K n t p x).2.length by simp; omega] at k2
  exact k2
theorem F_4_3 (hs : aS h r K n t p) (hr : r + 10 ≤ 50) (hd : dep + 6 ≤ 40) (hK : K < 6) (ey : y = nI 4) (k : Q (rT 4 K n t p x).1 (apC h r (rT 4 K n t p x).2)) : E X (d + 14) Ac_from 0 [.ref 51, .int y, .int 3, .int x, .int (nI dep), U0, U0] [] h Q := by
  subst ey
  refine (Ac_from_0 (Ac_from_1 (Ac_from_3 (Ac_from_4 ?_))))
  refine Af_miss (q := 4) (A := 3) (up := 0) (by omega) (by omega) (by omega) (by decide) ?_
  refine Af_hit (d := d + 12) (q := 0) (A := 3) (up := 1) (by omega) (by omega) (by omega) (by omega) (by decide) ?_
  refine (Ac_body_0 (Ac_body_1 (Ac_body_2 (Nat.le_of_ble_eq_true rfl) ?_)))
  refine Ac_keep_c (b := 13) hs.1 (by omega) ?_
  have s0 : aS _ _ _ _ _ _ := aS_s (b := 13) hs
  refine (Ac_body_5 (Ac_body_6 (fun z => absurd z (by decide)) (fun z => absurd z (by decide)) (fun z => absurd z (by decide)) (fun _ => (Ac_body_253 (Ac_body_254 (Ac_body_255 (Ac_body_256 (Ac_body_258 (Nat.le_of_ble_eq_true rfl) ?_)))))) (fun z => absurd z (by decide)) (fun z => absurd z (by decide)) (fun z => absurd z (by decide)) (fun z => absurd z (by decide)) (fun z => absurd z (by decide)) (fun z => absurd z (by decide)) (fun z => absurd z (by decide)) (fun z => absurd z (by decide)) (fun z => absurd z (by decide)) (fun z => absurd z (by decide)) (fun z => absurd z (by decide)) (fun z => absurd z (by decide)) (fun z => absurd z (by decide)) (fun z => absurd z (by decide)) (fun z => absurd z (by decide)) (fun z => absurd z (by decide)) (fun z => absurd z (by decide)) (fun z => absurd z (by decide)) (fun z => absurd z (by decide)) (fun z => absurd z (by decide)) (fun z => absurd z (by decide)) (fun z => absurd z (by decide)) (fun z => absurd z (by decide)) (fun z => absurd z (by decide)) (fun z => absurd z (by decide)) (fun z => absurd z (by decide)) (fun z => absurd z (by decide)) (fun z => absurd z (by decide)) (fun z => absurd z (by decide)) (fun z => absurd z (by decide)) (fun z => absurd z (by decide)) (fun z => absurd z (by decide)) (fun z => absurd z (by decide)) (fun z => absurd z (by decide)) (fun z => absurd z (by decide)) (fun z => absurd z (by decide)) (fun z => absurd z (by decide)) (fun z => absurd z (by decide)) (fun z => absurd z (by decide)) (fun z => absurd z (by decide)) (fun z => absurd z (by decide)) (fun z => absurd z (by decide)) (fun z => absurd z (by decide)) (fun z => absurd z (by decide)) (fun z => absurd z (by decide)) (fun z => absurd z (by decide)) (fun z => absurd z (by decide)) (fun z => absurd z (by decide)) (fun z => absurd z (by decide))))
  refine O_1 s0 (by omega) (by omega) hK ?_
  have s1 := aS_ap (rP K K n t p x).2 _ _ s0
  have l1 : (rP K K n t p x).2.length ≤ 5 := rP_l K K n t p x
  refine (Ac_body_261 (Ac_body_262 (Ac_body_263 (Ac_body_264 (Ac_body_266 (Nat.le_of_ble_eq_true rfl) ?_)))))
  refine O_2 s1 (by omega) (by omega) hK ?_
  refine (Ac_body_269 (Ac_body_270 ?_))
  have k2 := k
  simp only [rT, rT13, show ¬ (4 = 1 ∨ 4 = 2) by omega, if_false, show ¬ (4 = 5) by omega, if_false] at k2
  rw [show ∀ a b : List Int32, apC h r (13 :: (a ++ b)) = apC (apC h r (13 :: a)) (r + (13 :: a).length) b from fun a b => apC_app (l1 := 13 :: a) h r] at k2
  rw [show r + (13 :: (rP K K n t p x).2).length = r + 1 + (rP K K n t p x).2.length by simp; omega] at k2
  exact k2
theorem F_5_3 (hs : aS h r K n t p) (hr : r + 15 ≤ 50) (hd : dep + 7 ≤ 40) (hK : K < 6) (ey : y = nI 5) (k : Q (rT 5 K n t p x).1 (apC h r (rT 5 K n t p x).2)) : E X (d + 16) Ac_from 0 [.ref 51, .int y, .int 3, .int x, .int (nI dep), U0, U0] [] h Q := by
  subst ey
  refine (Ac_from_0 (Ac_from_1 (Ac_from_3 (Ac_from_4 ?_))))
  refine Af_hit (d := d + 14) (q := 5) (A := 3) (up := 0) (by omega) (by omega) (by omega) (by omega) (by decide) ?_
  refine (Ac_body_0 (Ac_body_1 (Ac_body_2 (Nat.le_of_ble_eq_true rfl) ?_)))
  refine Ac_keep_c (b := 60) hs.1 (by omega) ?_
  have s0 : aS _ _ _ _ _ _ := aS_s (b := 60) hs
  refine (Ac_body_5 (Ac_body_6 (fun z => absurd z (by decide)) (fun z => absurd z (by decide)) (fun z => absurd z (by decide)) (fun z => absurd z (by decide)) (fun z => absurd z (by decide)) (fun z => absurd z (by decide)) (fun z => absurd z (by decide)) (fun z => absurd z (by decide)) (fun z => absurd z (by decide)) (fun z => absurd z (by decide)) (fun z => absurd z (by decide)) (fun z => absurd z (by decide)) (fun z => absurd z (by decide)) (fun z => absurd z (by decide)) (fun z => absurd z (by decide)) (fun z => absurd z (by decide)) (fun z => absurd z (by decide)) (fun z => absurd z (by decide)) (fun z => absurd z (by decide)) (fun z => absurd z (by decide)) (fun z => absurd z (by decide)) (fun z => absurd z (by decide)) (fun z => absurd z (by decide)) (fun z => absurd z (by decide)) (fun z => absurd z (by decide)) (fun z => absurd z (by decide)) (fun z => absurd z (by decide)) (fun z => absurd z (by decide)) (fun z => absurd z (by decide)) (fun z => absurd z (by decide)) (fun z => absurd z (by decide)) (fun z => absurd z (by decide)) (fun z => absurd z (by decide)) (fun z => absurd z (by decide)) (fun z => absurd z (by decide)) (fun z => absurd z (by decide)) (fun z => absurd z (by decide)) (fun z => absurd z (by decide)) (fun z => absurd z (by decide)) (fun z => absurd z (by decide)) (fun z => absurd z (by decide)) (fun z => absurd z (by decide)) (fun z => absurd z (by decide)) (fun z => absurd z (by decide)) (fun z => absurd z (by decide)) (fun z => absurd z (by decide)) (fun z => absurd z (by decide)) (fun z => absurd z (by decide)) (fun z => absurd z (by decide)) (fun z => absurd z (by decide)) (fun _ => (Ac_body_371 (Ac_body_372 (Ac_body_373 (Ac_body_374 (Ac_body_376 (Nat.le_of_ble_eq_true rfl) ?_)))))) (fun z => absurd z (by decide)) (fun z => absurd z (by decide))))
  refine O_2 s0 (by omega) (by omega) hK ?_
  have s1 := aS_ap (rE K K n t p x).2 _ _ s0
  have l1 : (rE K K n t p x).2.length ≤ 4 := rE_l K K n t p x
  refine (Ac_body_379 (Ac_body_380 (Ac_body_381 (Ac_body_382 (Ac_body_383 (Ac_body_385 (Nat.le_of_ble_eq_true rfl) ?_))))))
  refine F_4_3 s1 (by omega) (by omega) hK rfl ?_
  refine (Ac_body_388 (Ac_body_389 ?_))
  have k2 := k
  simp only [rT, show ¬ (5 = 1 ∨ 5 = 2) by omega, if_false, if_true] at k2
  rw [show ∀ a b : List Int32, apC h r (60 :: (a ++ b)) = apC (apC h r (60 :: a)) (r + (60 :: a).length) b from fun a b => apC_app (l1 := 60 :: a) h r] at k2
  rw [show r + (60 :: (rE K K n t p x).2).length = r + 1 + (rE K K n t p x).2.length by simp; omega] at k2
  exact k2
theorem O_3 (hs : aS h r K n t p) (hr : r + 15 ≤ 50) (hd : dep + 7 ≤ 40) (hK : K < 6) (k : Q (rT K K n t p x).1 (apC h r (rT K K n t p x).2)) : E X (d + 17) Ac_own 0 [.ref 51, .int 3, .int x, .int (nI dep)] [] h Q := by
  refine (Ac_own_0 (Ac_own_1 (Ac_own_2 (Ac_own_5 (Ac_own_6 (Ac_own_7 (Ac_own_8 (Nat.le_of_ble_eq_true rfl) ?_)))))))
  rw [hs.2.2.1]
  have fin : ∀ r1 h1, (fun r2 h2 => Q r2 h2) r1 h1 → E X (d + 17) Ac_own 11 [.ref 51, .int 3, .int x, .int (nI dep)] [.int r1] h1 Q := fun r1 h1 z => by
    refine (Ac_own_11 ?_)
    exact z
  match K, hK, hs, k with
  | 0, _, hs, k => exact F_0_3 hs (by omega) (by omega) (by omega) rfl (fin _ _ k)
  | 1, _, hs, k => exact F_1_3 hs (by omega) (by omega) (by omega) rfl (fin _ _ k)
  | 2, _, hs, k => exact F_2_3 hs (by omega) (by omega) (by omega) rfl (fin _ _ k)
  | 3, _, hs, k => exact F_3_3 hs (by omega) (by omega) (by omega) rfl (fin _ _ k)
  | 4, _, hs, k => exact F_4_3 hs (by omega) (by omega) (by omega) rfl (fin _ _ k)
  | 5, _, hs, k => exact F_5_3 hs (by omega) (by omega) (by omega) rfl (fin _ _ k)
  | _ + 6, z, _, _ => exact absurd z (by omega)
end AC
