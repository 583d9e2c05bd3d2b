theorem JA_fillI_13n {X : SX} {d : Nat} {L : List Value} {st : List Value} {h : HH} {Q : Int32 → HH → Prop} {i : Int32} {v : Int32} {a nn : Nat} (ha : LAY[a]? = some (Sum.inr (0, nn))) {k : Nat} (e : i = nI k) (hn : nn < 2 ^ 31) (hk : k < nn) (kk : E X d JA_fillI 14 L st (pI h a k v) Q) : E X d JA_fillI 13 L (.int v :: .int i :: .ref a :: st) h Q := by
  subst e
  exact JA_fillI_13 ha (vp_in_nI hk (by omega)) (by rw [nI_clamp (show k < 2 ^ 31 by omega)]; exact kk)
theorem JA_fillJ_15n {X : SX} {d : Nat} {L : List Value} {st : List Value} {h : HH} {Q : Int32 → HH → Prop} {i : Int32} {v : Int64} {a nn : Nat} (ha : LAY[a]? = some (Sum.inr (1, nn))) {k : Nat} (e : i = nI k) (hn : nn < 2 ^ 31) (hk : k < nn) (kk : E X d JA_fillJ 16 L st (pL h a k v) Q) : E X d JA_fillJ 15 L (.long v :: .int i :: .ref a :: st) h Q := by
  subst e
  exact JA_fillJ_15 ha (vp_in_nI hk (by omega)) (by rw [nI_clamp (show k < 2 ^ 31 by omega)]; exact kk)
theorem La_put_19n {X : SX} {d : Nat} {L : List Value} {st : List Value} {h : HH} {Q : Int32 → HH → Prop} {i : Int32} {v : Int32}  {o : Nat} (ho : isLa o) {k : Nat} (e : i = nI k) (hk : k < 90) (kk : E X d La_put 20 L st (pI h (o + 1) k v) Q) : E X d La_put 19 L (.int v :: .int i :: .ref (o + 1) :: st) h Q := by
  subst e
  exact La_put_19 ho (vp_in_nI hk (by omega)) (by rw [nI_clamp (show k < 2 ^ 31 by omega)]; exact kk)
theorem La_get_10n {X : SX} {d : Nat} {L : List Value} {st : List Value} {h : HH} {Q : Int32 → HH → Prop} {i : Int32}  {o : Nat} (ho : isLa o) {k : Nat} (e : i = nI k) (hk : k < 90) (kk : E X d La_get 11 L (.int (h.1 (o + 1) k) :: st) h Q) : E X d La_get 10 L (.int i :: .ref (o + 1) :: st) h Q := by
  subst e
  exact La_get_10 ho (vp_in_nI hk (by omega)) (by rw [nI_clamp (show k < 2 ^ 31 by omega)]; exact kk)
theorem Si_add_9n {X : SX} {d : Nat} {L : List Value} {st : List Value} {h : HH} {Q : Int32 → HH → Prop} {i : Int32} {v : Int32}  {k : Nat} (e : i = nI k) (hk : k < 200) (kk : E X d Si_add 10 L st (pI h 5 k v) Q) : E X d Si_add 9 L (.int v :: .int i :: .ref 5 :: st) h Q := by
  subst e
  exact Si_add_9  (vp_in_nI hk (by omega)) (by rw [nI_clamp (show k < 2 ^ 31 by omega)]; exact kk)
theorem Si_add_19n {X : SX} {d : Nat} {L : List Value} {st : List Value} {h : HH} {Q : Int32 → HH → Prop} {i : Int32} {v : Int32}  {k : Nat} (e : i = nI k) (hk : k < 200) (kk : E X d Si_add 20 L st (pI h 6 k v) Q) : E X d Si_add 19 L (.int v :: .int i :: .ref 6 :: st) h Q := by
  subst e
  exact Si_add_19  (vp_in_nI hk (by omega)) (by rw [nI_clamp (show k < 2 ^ 31 by omega)]; exact kk)
theorem Si_add_33n {X : SX} {d : Nat} {L : List Value} {st : List Value} {h : HH} {Q : Int32 → HH → Prop} {i : Int32}  {k : Nat} (e : i = nI k) (hk : k < 1464) (kk : E X d Si_add 34 L (.int (h.1 8 k) :: st) h Q) : E X d Si_add 33 L (.int i :: .ref 8 :: st) h Q := by
  subst e
  exact Si_add_33  (vp_in_nI hk (by omega)) (by rw [nI_clamp (show k < 2 ^ 31 by omega)]; exact kk)
theorem Si_add_34n {X : SX} {d : Nat} {L : List Value} {st : List Value} {h : HH} {Q : Int32 → HH → Prop} {i : Int32} {v : Int32}  {k : Nat} (e : i = nI k) (hk : k < 200) (kk : E X d Si_add 35 L st (pI h 7 k v) Q) : E X d Si_add 34 L (.int v :: .int i :: .ref 7 :: st) h Q := by
  subst e
  exact Si_add_34  (vp_in_nI hk (by omega)) (by rw [nI_clamp (show k < 2 ^ 31 by omega)]; exact kk)
theorem Si_add_54n {X : SX} {d : Nat} {L : List Value} {st : List Value} {h : HH} {Q : Int32 → HH → Prop} {i : Int32} {v : Int32}  {k : Nat} (e : i = nI k) (hk : k < 1464) (kk : E X d Si_add 55 L st (pI h 8 k v) Q) : E X d Si_add 54 L (.int v :: .int i :: .ref 8 :: st) h Q := by
  subst e
  exact Si_add_54  (vp_in_nI hk (by omega)) (by rw [nI_clamp (show k < 2 ^ 31 by omega)]; exact kk)
theorem Si_asKnown_18n {X : SX} {d : Nat} {L : List Value} {st : List Value} {h : HH} {Q : Int32 → HH → Prop} {i : Int32}  {k : Nat} (e : i = nI k) (hk : k < 1464) (kk : E X d Si_asKnown 19 L (.int (h.1 8 k) :: st) h Q) : E X d Si_asKnown 18 L (.int i :: .ref 8 :: st) h Q := by
  subst e
  exact Si_asKnown_18  (vp_in_nI hk (by omega)) (by rw [nI_clamp (show k < 2 ^ 31 by omega)]; exact kk)
theorem Si_asKnown_45n {X : SX} {d : Nat} {L : List Value} {st : List Value} {h : HH} {Q : Int32 → HH → Prop} {i : Int32}  {k : Nat} (e : i = nI k) (hk : k < 200) (kk : E X d Si_asKnown 46 L (.int (h.1 6 k) :: st) h Q) : E X d Si_asKnown 45 L (.int i :: .ref 6 :: st) h Q := by
  subst e
  exact Si_asKnown_45  (vp_in_nI hk (by omega)) (by rw [nI_clamp (show k < 2 ^ 31 by omega)]; exact kk)
theorem Si_asKnown_59n {X : SX} {d : Nat} {L : List Value} {st : List Value} {h : HH} {Q : Int32 → HH → Prop} {i : Int32}  {k : Nat} (e : i = nI k) (hk : k < 200) (kk : E X d Si_asKnown 60 L (.int (h.1 5 k) :: st) h Q) : E X d Si_asKnown 59 L (.int i :: .ref 5 :: st) h Q := by
  subst e
  exact Si_asKnown_59  (vp_in_nI hk (by omega)) (by rw [nI_clamp (show k < 2 ^ 31 by omega)]; exact kk)
theorem Si_asKnown_69n {X : SX} {d : Nat} {L : List Value} {st : List Value} {h : HH} {Q : Int32 → HH → Prop} {i : Int32}  {k : Nat} (e : i = nI k) (hk : k < 200) (kk : E X d Si_asKnown 70 L (.int (h.1 7 k) :: st) h Q) : E X d Si_asKnown 69 L (.int i :: .ref 7 :: st) h Q := by
  subst e
  exact Si_asKnown_69  (vp_in_nI hk (by omega)) (by rw [nI_clamp (show k < 2 ^ 31 by omega)]; exact kk)
theorem Co_put_11n {X : SX} {d : Nat} {L : List Value} {st : List Value} {h : HH} {Q : Int32 → HH → Prop} {i : Int32} {v : Int32}  {k : Nat} (e : i = nI k) (hk : k < 108) (kk : E X d Co_put 12 L st (pI h 10 k v) Q) : E X d Co_put 11 L (.int v :: .int i :: .ref 10 :: st) h Q := by
  subst e
  exact Co_put_11  (vp_in_nI hk (by omega)) (by rw [nI_clamp (show k < 2 ^ 31 by omega)]; exact kk)
theorem Co_get_10n {X : SX} {d : Nat} {L : List Value} {st : List Value} {h : HH} {Q : Int32 → HH → Prop} {i : Int32}  {k : Nat} (e : i = nI k) (hk : k < 108) (kk : E X d Co_get 11 L (.int (h.1 10 k) :: st) h Q) : E X d Co_get 10 L (.int i :: .ref 10 :: st) h Q := by
  subst e
  exact Co_get_10  (vp_in_nI hk (by omega)) (by rw [nI_clamp (show k < 2 ^ 31 by omega)]; exact kk)
theorem Wa_add_9n {X : SX} {d : Nat} {L : List Value} {st : List Value} {h : HH} {Q : Int32 → HH → Prop} {i : Int32} {v : Int32}  {k : Nat} (e : i = nI k) (hk : k < 12) (kk : E X d Wa_add 10 L st (pI h 12 k v) Q) : E X d Wa_add 9 L (.int v :: .int i :: .ref 12 :: st) h Q := by
  subst e
  exact Wa_add_9  (vp_in_nI hk (by omega)) (by rw [nI_clamp (show k < 2 ^ 31 by omega)]; exact kk)
theorem Wa_add_19n {X : SX} {d : Nat} {L : List Value} {st : List Value} {h : HH} {Q : Int32 → HH → Prop} {i : Int32} {v : Int32}  {k : Nat} (e : i = nI k) (hk : k < 12) (kk : E X d Wa_add 20 L st (pI h 13 k v) Q) : E X d Wa_add 19 L (.int v :: .int i :: .ref 13 :: st) h Q := by
  subst e
  exact Wa_add_19  (vp_in_nI hk (by omega)) (by rw [nI_clamp (show k < 2 ^ 31 by omega)]; exact kk)
theorem Wa_add_29n {X : SX} {d : Nat} {L : List Value} {st : List Value} {h : HH} {Q : Int32 → HH → Prop} {i : Int32} {v : Int32}  {k : Nat} (e : i = nI k) (hk : k < 12) (kk : E X d Wa_add 30 L st (pI h 14 k v) Q) : E X d Wa_add 29 L (.int v :: .int i :: .ref 14 :: st) h Q := by
  subst e
  exact Wa_add_29  (vp_in_nI hk (by omega)) (by rw [nI_clamp (show k < 2 ^ 31 by omega)]; exact kk)
theorem Wa_add_40n {X : SX} {d : Nat} {L : List Value} {st : List Value} {h : HH} {Q : Int32 → HH → Prop} {i : Int32} {v : Int32}  {k : Nat} (e : i = nI k) (hk : k < 12) (kk : E X d Wa_add 41 L st (pI h 15 k v) Q) : E X d Wa_add 40 L (.int v :: .int i :: .ref 15 :: st) h Q := by
  subst e
  exact Wa_add_40  (vp_in_nI hk (by omega)) (by rw [nI_clamp (show k < 2 ^ 31 by omega)]; exact kk)
theorem Wa_reached_35n {X : SX} {d : Nat} {L : List Value} {st : List Value} {h : HH} {Q : Int32 → HH → Prop} {i : Int32}  {k : Nat} (e : i = nI k) (hk : k < 12) (kk : E X d Wa_reached 36 L (.int (h.1 12 k) :: st) h Q) : E X d Wa_reached 35 L (.int i :: .ref 12 :: st) h Q := by
  subst e
  exact Wa_reached_35  (vp_in_nI hk (by omega)) (by rw [nI_clamp (show k < 2 ^ 31 by omega)]; exact kk)
theorem Wa_reached_52n {X : SX} {d : Nat} {L : List Value} {st : List Value} {h : HH} {Q : Int32 → HH → Prop} {i : Int32}  {k : Nat} (e : i = nI k) (hk : k < 12) (kk : E X d Wa_reached 53 L (.int (h.1 13 k) :: st) h Q) : E X d Wa_reached 52 L (.int i :: .ref 13 :: st) h Q := by
  subst e
  exact Wa_reached_52  (vp_in_nI hk (by omega)) (by rw [nI_clamp (show k < 2 ^ 31 by omega)]; exact kk)
theorem Wo_add_9n {X : SX} {d : Nat} {L : List Value} {st : List Value} {h : HH} {Q : Int32 → HH → Prop} {i : Int32} {v : Int32}  {k : Nat} (e : i = nI k) (hk : k < 8) (kk : E X d Wo_add 10 L st (pI h 17 k v) Q) : E X d Wo_add 9 L (.int v :: .int i :: .ref 17 :: st) h Q := by
  subst e
  exact Wo_add_9  (vp_in_nI hk (by omega)) (by rw [nI_clamp (show k < 2 ^ 31 by omega)]; exact kk)
theorem Wo_add_19n {X : SX} {d : Nat} {L : List Value} {st : List Value} {h : HH} {Q : Int32 → HH → Prop} {i : Int32} {v : Int32}  {k : Nat} (e : i = nI k) (hk : k < 8) (kk : E X d Wo_add 20 L st (pI h 18 k v) Q) : E X d Wo_add 19 L (.int v :: .int i :: .ref 18 :: st) h Q := by
  subst e
  exact Wo_add_19  (vp_in_nI hk (by omega)) (by rw [nI_clamp (show k < 2 ^ 31 by omega)]; exact kk)
theorem Wo_add_29n {X : SX} {d : Nat} {L : List Value} {st : List Value} {h : HH} {Q : Int32 → HH → Prop} {i : Int32} {v : Int32}  {k : Nat} (e : i = nI k) (hk : k < 8) (kk : E X d Wo_add 30 L st (pI h 19 k v) Q) : E X d Wo_add 29 L (.int v :: .int i :: .ref 19 :: st) h Q := by
  subst e
  exact Wo_add_29  (vp_in_nI hk (by omega)) (by rw [nI_clamp (show k < 2 ^ 31 by omega)]; exact kk)
theorem Wo_worksIn_18n {X : SX} {d : Nat} {L : List Value} {st : List Value} {h : HH} {Q : Int32 → HH → Prop} {i : Int32}  {k : Nat} (e : i = nI k) (hk : k < 8) (kk : E X d Wo_worksIn 19 L (.int (h.1 17 k) :: st) h Q) : E X d Wo_worksIn 18 L (.int i :: .ref 17 :: st) h Q := by
  subst e
  exact Wo_worksIn_18  (vp_in_nI hk (by omega)) (by rw [nI_clamp (show k < 2 ^ 31 by omega)]; exact kk)
theorem Wo_sumOver_28n {X : SX} {d : Nat} {L : List Value} {st : List Value} {h : HH} {Q : Int32 → HH → Prop} {i : Int32} {a nn : Nat} (ha : LAY[a]? = some (Sum.inr (0, nn))) {k : Nat} (e : i = nI k) (hn : nn < 2 ^ 31) (hk : k < nn) (kk : E X d Wo_sumOver 29 L (.int (h.1 a k) :: st) h Q) : E X d Wo_sumOver 28 L (.int i :: .ref a :: st) h Q := by
  subst e
  exact Wo_sumOver_28 ha (vp_in_nI hk (by omega)) (by rw [nI_clamp (show k < 2 ^ 31 by omega)]; exact kk)
theorem St_passWeek_73n {X : SX} {d : Nat} {L : List Value} {st : List Value} {h : HH} {Q : Int32 → HH → Prop} {i : Int32} {v : Int32}  {k : Nat} (e : i = nI k) (hk : k < 360) (kk : E X d St_passWeek 74 L st (pI h 20 k v) Q) : E X d St_passWeek 73 L (.int v :: .int i :: .ref 20 :: st) h Q := by
  subst e
  exact St_passWeek_73  (vp_in_nI hk (by omega)) (by rw [nI_clamp (show k < 2 ^ 31 by omega)]; exact kk)
theorem Ca_layWays_15n {X : SX} {d : Nat} {L : List Value} {st : List Value} {h : HH} {Q : Int32 → HH → Prop} {i : Int32}  {k : Nat} (e : i = nI k) (hk : k < 12) (kk : E X d Ca_layWays 16 L (.int (h.1 15 k) :: st) h Q) : E X d Ca_layWays 15 L (.int i :: .ref 15 :: st) h Q := by
  subst e
  exact Ca_layWays_15  (vp_in_nI hk (by omega)) (by rw [nI_clamp (show k < 2 ^ 31 by omega)]; exact kk)
theorem Ca_layWays_25n {X : SX} {d : Nat} {L : List Value} {st : List Value} {h : HH} {Q : Int32 → HH → Prop} {i : Int32} {k : Nat} (e : i = nI k) (hk : k < 12) (kk : E X d Ca_layWays 26 L (.long (kPows k) :: st) h Q) : E X d Ca_layWays 25 L (.int i :: .ref 1002 :: st) h Q := by
  subst e
  exact Ca_layWays_25  (vp_in_nI hk (by omega)) (by rw [nI_clamp (show k < 2 ^ 31 by omega)]; exact kk)
theorem Ca_layWays_35n {X : SX} {d : Nat} {L : List Value} {st : List Value} {h : HH} {Q : Int32 → HH → Prop} {i : Int32}  {k : Nat} (e : i = nI k) (hk : k < 12) (kk : E X d Ca_layWays 36 L (.int (h.1 12 k) :: st) h Q) : E X d Ca_layWays 35 L (.int i :: .ref 12 :: st) h Q := by
  subst e
  exact Ca_layWays_35  (vp_in_nI hk (by omega)) (by rw [nI_clamp (show k < 2 ^ 31 by omega)]; exact kk)
theorem Ca_layWays_41n {X : SX} {d : Nat} {L : List Value} {st : List Value} {h : HH} {Q : Int32 → HH → Prop} {i : Int32}  {k : Nat} (e : i = nI k) (hk : k < 12) (kk : E X d Ca_layWays 42 L (.int (h.1 13 k) :: st) h Q) : E X d Ca_layWays 41 L (.int i :: .ref 13 :: st) h Q := by
  subst e
  exact Ca_layWays_41  (vp_in_nI hk (by omega)) (by rw [nI_clamp (show k < 2 ^ 31 by omega)]; exact kk)
theorem Ca_layWays_56n {X : SX} {d : Nat} {L : List Value} {st : List Value} {h : HH} {Q : Int32 → HH → Prop} {i : Int32}  {k : Nat} (e : i = nI k) (hk : k < 12) (kk : E X d Ca_layWays 57 L (.int (h.1 13 k) :: st) h Q) : E X d Ca_layWays 56 L (.int i :: .ref 13 :: st) h Q := by
  subst e
  exact Ca_layWays_56  (vp_in_nI hk (by omega)) (by rw [nI_clamp (show k < 2 ^ 31 by omega)]; exact kk)
theorem Ca_layWays_62n {X : SX} {d : Nat} {L : List Value} {st : List Value} {h : HH} {Q : Int32 → HH → Prop} {i : Int32}  {k : Nat} (e : i = nI k) (hk : k < 12) (kk : E X d Ca_layWays 63 L (.int (h.1 12 k) :: st) h Q) : E X d Ca_layWays 62 L (.int i :: .ref 12 :: st) h Q := by
  subst e
  exact Ca_layWays_62  (vp_in_nI hk (by omega)) (by rw [nI_clamp (show k < 2 ^ 31 by omega)]; exact kk)
theorem Ca_layWays_78n {X : SX} {d : Nat} {L : List Value} {st : List Value} {h : HH} {Q : Int32 → HH → Prop} {i : Int32}  {k : Nat} (e : i = nI k) (hk : k < 12) (kk : E X d Ca_layWays 79 L (.int (h.1 14 k) :: st) h Q) : E X d Ca_layWays 78 L (.int i :: .ref 14 :: st) h Q := by
  subst e
  exact Ca_layWays_78  (vp_in_nI hk (by omega)) (by rw [nI_clamp (show k < 2 ^ 31 by omega)]; exact kk)
theorem Ca_layWays_79n {X : SX} {d : Nat} {L : List Value} {st : List Value} {h : HH} {Q : Int32 → HH → Prop} {i : Int32} {v : Int32}  {k : Nat} (e : i = nI k) (hk : k < 30) (kk : E X d Ca_layWays 80 L st (pI h 47 k v) Q) : E X d Ca_layWays 79 L (.int v :: .int i :: .ref 47 :: st) h Q := by
  subst e
  exact Ca_layWays_79  (vp_in_nI hk (by omega)) (by rw [nI_clamp (show k < 2 ^ 31 by omega)]; exact kk)
theorem Ca_layEdge_6n {X : SX} {d : Nat} {L : List Value} {st : List Value} {h : HH} {Q : Int32 → HH → Prop} {i : Int32} {v : Int32}  {k : Nat} (e : i = nI k) (hk : k < 30) (kk : E X d Ca_layEdge 7 L st (pI h 45 k v) Q) : E X d Ca_layEdge 6 L (.int v :: .int i :: .ref 45 :: st) h Q := by
  subst e
  exact Ca_layEdge_6  (vp_in_nI hk (by omega)) (by rw [nI_clamp (show k < 2 ^ 31 by omega)]; exact kk)
theorem Ca_layEdge_13n {X : SX} {d : Nat} {L : List Value} {st : List Value} {h : HH} {Q : Int32 → HH → Prop} {i : Int32} {v : Int32}  {k : Nat} (e : i = nI k) (hk : k < 30) (kk : E X d Ca_layEdge 14 L st (pI h 46 k v) Q) : E X d Ca_layEdge 13 L (.int v :: .int i :: .ref 46 :: st) h Q := by
  subst e
  exact Ca_layEdge_13  (vp_in_nI hk (by omega)) (by rw [nI_clamp (show k < 2 ^ 31 by omega)]; exact kk)
theorem Ca_layEdge_21n {X : SX} {d : Nat} {L : List Value} {st : List Value} {h : HH} {Q : Int32 → HH → Prop} {i : Int32} {v : Int64}  {k : Nat} (e : i = nI k) (hk : k < 30) (kk : E X d Ca_layEdge 22 L st (pL h 48 k v) Q) : E X d Ca_layEdge 21 L (.long v :: .int i :: .ref 48 :: st) h Q := by
  subst e
  exact Ca_layEdge_21  (vp_in_nI hk (by omega)) (by rw [nI_clamp (show k < 2 ^ 31 by omega)]; exact kk)
theorem Ca_layGiven_58n {X : SX} {d : Nat} {L : List Value} {st : List Value} {h : HH} {Q : Int32 → HH → Prop} {i : Int32} {v : Int32}  {k : Nat} (e : i = nI k) (hk : k < 30) (kk : E X d Ca_layGiven 59 L st (pI h 47 k v) Q) : E X d Ca_layGiven 58 L (.int v :: .int i :: .ref 47 :: st) h Q := by
  subst e
  exact Ca_layGiven_58  (vp_in_nI hk (by omega)) (by rw [nI_clamp (show k < 2 ^ 31 by omega)]; exact kk)
theorem Ca_findPath_17n {X : SX} {d : Nat} {L : List Value} {st : List Value} {h : HH} {Q : Int32 → HH → Prop} {i : Int32} {v : Int64}  {k : Nat} (e : i = nI k) (hk : k < 7) (kk : E X d Ca_findPath 18 L st (pL h 49 k v) Q) : E X d Ca_findPath 17 L (.long v :: .int i :: .ref 49 :: st) h Q := by
  subst e
  exact Ca_findPath_17  (vp_in_nI hk (by omega)) (by rw [nI_clamp (show k < 2 ^ 31 by omega)]; exact kk)
theorem Ca_findPath_51n {X : SX} {d : Nat} {L : List Value} {st : List Value} {h : HH} {Q : Int32 → HH → Prop} {i : Int32}  {k : Nat} (e : i = nI k) (hk : k < 30) (kk : E X d Ca_findPath 52 L (.int (h.1 47 k) :: st) h Q) : E X d Ca_findPath 51 L (.int i :: .ref 47 :: st) h Q := by
  subst e
  exact Ca_findPath_51  (vp_in_nI hk (by omega)) (by rw [nI_clamp (show k < 2 ^ 31 by omega)]; exact kk)
theorem Ca_findPath_88n {X : SX} {d : Nat} {L : List Value} {st : List Value} {h : HH} {Q : Int32 → HH → Prop} {i : Int32}  {k : Nat} (e : i = nI k) (hk : k < 7) (kk : E X d Ca_findPath 89 L (.long (h.2 49 k) :: st) h Q) : E X d Ca_findPath 88 L (.int i :: .ref 49 :: st) h Q := by
  subst e
  exact Ca_findPath_88  (vp_in_nI hk (by omega)) (by rw [nI_clamp (show k < 2 ^ 31 by omega)]; exact kk)
theorem Ca_comeNearer_9n {X : SX} {d : Nat} {L : List Value} {st : List Value} {h : HH} {Q : Int32 → HH → Prop} {i : Int32}  {k : Nat} (e : i = nI k) (hk : k < 30) (kk : E X d Ca_comeNearer 10 L (.int (h.1 45 k) :: st) h Q) : E X d Ca_comeNearer 9 L (.int i :: .ref 45 :: st) h Q := by
  subst e
  exact Ca_comeNearer_9  (vp_in_nI hk (by omega)) (by rw [nI_clamp (show k < 2 ^ 31 by omega)]; exact kk)
theorem Ca_comeNearer_10n {X : SX} {d : Nat} {L : List Value} {st : List Value} {h : HH} {Q : Int32 → HH → Prop} {i : Int32}  {k : Nat} (e : i = nI k) (hk : k < 7) (kk : E X d Ca_comeNearer 11 L (.long (h.2 49 k) :: st) h Q) : E X d Ca_comeNearer 10 L (.int i :: .ref 49 :: st) h Q := by
  subst e
  exact Ca_comeNearer_10  (vp_in_nI hk (by omega)) (by rw [nI_clamp (show k < 2 ^ 31 by omega)]; exact kk)
theorem Ca_comeNearer_26n {X : SX} {d : Nat} {L : List Value} {st : List Value} {h : HH} {Q : Int32 → HH → Prop} {i : Int32}  {k : Nat} (e : i = nI k) (hk : k < 30) (kk : E X d Ca_comeNearer 27 L (.long (h.2 48 k) :: st) h Q) : E X d Ca_comeNearer 26 L (.int i :: .ref 48 :: st) h Q := by
  subst e
  exact Ca_comeNearer_26  (vp_in_nI hk (by omega)) (by rw [nI_clamp (show k < 2 ^ 31 by omega)]; exact kk)
theorem Ca_comeNearer_37n {X : SX} {d : Nat} {L : List Value} {st : List Value} {h : HH} {Q : Int32 → HH → Prop} {i : Int32}  {k : Nat} (e : i = nI k) (hk : k < 30) (kk : E X d Ca_comeNearer 38 L (.int (h.1 46 k) :: st) h Q) : E X d Ca_comeNearer 37 L (.int i :: .ref 46 :: st) h Q := by
  subst e
  exact Ca_comeNearer_37  (vp_in_nI hk (by omega)) (by rw [nI_clamp (show k < 2 ^ 31 by omega)]; exact kk)
theorem Ca_comeNearer_38n {X : SX} {d : Nat} {L : List Value} {st : List Value} {h : HH} {Q : Int32 → HH → Prop} {i : Int32}  {k : Nat} (e : i = nI k) (hk : k < 7) (kk : E X d Ca_comeNearer 39 L (.long (h.2 49 k) :: st) h Q) : E X d Ca_comeNearer 38 L (.int i :: .ref 49 :: st) h Q := by
  subst e
  exact Ca_comeNearer_38  (vp_in_nI hk (by omega)) (by rw [nI_clamp (show k < 2 ^ 31 by omega)]; exact kk)
theorem Ca_comeNearer_54n {X : SX} {d : Nat} {L : List Value} {st : List Value} {h : HH} {Q : Int32 → HH → Prop} {i : Int32}  {k : Nat} (e : i = nI k) (hk : k < 30) (kk : E X d Ca_comeNearer 55 L (.int (h.1 46 k) :: st) h Q) : E X d Ca_comeNearer 54 L (.int i :: .ref 46 :: st) h Q := by
  subst e
  exact Ca_comeNearer_54  (vp_in_nI hk (by omega)) (by rw [nI_clamp (show k < 2 ^ 31 by omega)]; exact kk)
theorem Ca_comeNearer_61n {X : SX} {d : Nat} {L : List Value} {st : List Value} {h : HH} {Q : Int32 → HH → Prop} {i : Int32}  {k : Nat} (e : i = nI k) (hk : k < 30) (kk : E X d Ca_comeNearer 62 L (.long (h.2 48 k) :: st) h Q) : E X d Ca_comeNearer 61 L (.int i :: .ref 48 :: st) h Q := by
  subst e
  exact Ca_comeNearer_61  (vp_in_nI hk (by omega)) (by rw [nI_clamp (show k < 2 ^ 31 by omega)]; exact kk)
theorem Ca_comeNearer_63n {X : SX} {d : Nat} {L : List Value} {st : List Value} {h : HH} {Q : Int32 → HH → Prop} {i : Int32} {v : Int64}  {k : Nat} (e : i = nI k) (hk : k < 7) (kk : E X d Ca_comeNearer 64 L st (pL h 49 k v) Q) : E X d Ca_comeNearer 63 L (.long v :: .int i :: .ref 49 :: st) h Q := by
  subst e
  exact Ca_comeNearer_63  (vp_in_nI hk (by omega)) (by rw [nI_clamp (show k < 2 ^ 31 by omega)]; exact kk)
theorem Ca_comeNearer_73n {X : SX} {d : Nat} {L : List Value} {st : List Value} {h : HH} {Q : Int32 → HH → Prop} {i : Int32}  {k : Nat} (e : i = nI k) (hk : k < 30) (kk : E X d Ca_comeNearer 74 L (.int (h.1 46 k) :: st) h Q) : E X d Ca_comeNearer 73 L (.int i :: .ref 46 :: st) h Q := by
  subst e
  exact Ca_comeNearer_73  (vp_in_nI hk (by omega)) (by rw [nI_clamp (show k < 2 ^ 31 by omega)]; exact kk)
theorem Ca_comeNearer_75n {X : SX} {d : Nat} {L : List Value} {st : List Value} {h : HH} {Q : Int32 → HH → Prop} {i : Int32} {v : Int32}  {k : Nat} (e : i = nI k) (hk : k < 7) (kk : E X d Ca_comeNearer 76 L st (pI h 50 k v) Q) : E X d Ca_comeNearer 75 L (.int v :: .int i :: .ref 50 :: st) h Q := by
  subst e
  exact Ca_comeNearer_75  (vp_in_nI hk (by omega)) (by rw [nI_clamp (show k < 2 ^ 31 by omega)]; exact kk)
theorem Ca_sendAlong_33n {X : SX} {d : Nat} {L : List Value} {st : List Value} {h : HH} {Q : Int32 → HH → Prop} {i : Int32}  {k : Nat} (e : i = nI k) (hk : k < 7) (kk : E X d Ca_sendAlong 34 L (.int (h.1 50 k) :: st) h Q) : E X d Ca_sendAlong 33 L (.int i :: .ref 50 :: st) h Q := by
  subst e
  exact Ca_sendAlong_33  (vp_in_nI hk (by omega)) (by rw [nI_clamp (show k < 2 ^ 31 by omega)]; exact kk)
theorem Ca_sendAlong_34n {X : SX} {d : Nat} {L : List Value} {st : List Value} {h : HH} {Q : Int32 → HH → Prop} {i : Int32}  {k : Nat} (e : i = nI k) (hk : k < 30) (kk : E X d Ca_sendAlong 35 L (.int (h.1 47 k) :: st) h Q) : E X d Ca_sendAlong 34 L (.int i :: .ref 47 :: st) h Q := by
  subst e
  exact Ca_sendAlong_34  (vp_in_nI hk (by omega)) (by rw [nI_clamp (show k < 2 ^ 31 by omega)]; exact kk)
theorem Ca_sendAlong_49n {X : SX} {d : Nat} {L : List Value} {st : List Value} {h : HH} {Q : Int32 → HH → Prop} {i : Int32}  {k : Nat} (e : i = nI k) (hk : k < 7) (kk : E X d Ca_sendAlong 50 L (.int (h.1 50 k) :: st) h Q) : E X d Ca_sendAlong 49 L (.int i :: .ref 50 :: st) h Q := by
  subst e
  exact Ca_sendAlong_49  (vp_in_nI hk (by omega)) (by rw [nI_clamp (show k < 2 ^ 31 by omega)]; exact kk)
theorem Ca_sendAlong_50n {X : SX} {d : Nat} {L : List Value} {st : List Value} {h : HH} {Q : Int32 → HH → Prop} {i : Int32}  {k : Nat} (e : i = nI k) (hk : k < 30) (kk : E X d Ca_sendAlong 51 L (.int (h.1 45 k) :: st) h Q) : E X d Ca_sendAlong 50 L (.int i :: .ref 45 :: st) h Q := by
  subst e
  exact Ca_sendAlong_50  (vp_in_nI hk (by omega)) (by rw [nI_clamp (show k < 2 ^ 31 by omega)]; exact kk)
theorem Ca_sendAlong_85n {X : SX} {d : Nat} {L : List Value} {st : List Value} {h : HH} {Q : Int32 → HH → Prop} {i : Int32}  {k : Nat} (e : i = nI k) (hk : k < 7) (kk : E X d Ca_sendAlong 86 L (.int (h.1 50 k) :: st) h Q) : E X d Ca_sendAlong 85 L (.int i :: .ref 50 :: st) h Q := by
  subst e
  exact Ca_sendAlong_85  (vp_in_nI hk (by omega)) (by rw [nI_clamp (show k < 2 ^ 31 by omega)]; exact kk)
theorem Ca_sendAlong_95n {X : SX} {d : Nat} {L : List Value} {st : List Value} {h : HH} {Q : Int32 → HH → Prop} {i : Int32}  {k : Nat} (e : i = nI k) (hk : k < 30) (kk : E X d Ca_sendAlong 96 L (.int (h.1 47 k) :: st) h Q) : E X d Ca_sendAlong 95 L (.int i :: .ref 47 :: st) h Q := by
  subst e
  exact Ca_sendAlong_95  (vp_in_nI hk (by omega)) (by rw [nI_clamp (show k < 2 ^ 31 by omega)]; exact kk)
theorem Ca_sendAlong_98n {X : SX} {d : Nat} {L : List Value} {st : List Value} {h : HH} {Q : Int32 → HH → Prop} {i : Int32} {v : Int32}  {k : Nat} (e : i = nI k) (hk : k < 30) (kk : E X d Ca_sendAlong 99 L st (pI h 47 k v) Q) : E X d Ca_sendAlong 98 L (.int v :: .int i :: .ref 47 :: st) h Q := by
  subst e
  exact Ca_sendAlong_98  (vp_in_nI hk (by omega)) (by rw [nI_clamp (show k < 2 ^ 31 by omega)]; exact kk)
theorem Ca_sendAlong_131n {X : SX} {d : Nat} {L : List Value} {st : List Value} {h : HH} {Q : Int32 → HH → Prop} {i : Int32}  {k : Nat} (e : i = nI k) (hk : k < 30) (kk : E X d Ca_sendAlong 132 L (.int (h.1 47 k) :: st) h Q) : E X d Ca_sendAlong 131 L (.int i :: .ref 47 :: st) h Q := by
  subst e
  exact Ca_sendAlong_131  (vp_in_nI hk (by omega)) (by rw [nI_clamp (show k < 2 ^ 31 by omega)]; exact kk)
theorem Ca_sendAlong_134n {X : SX} {d : Nat} {L : List Value} {st : List Value} {h : HH} {Q : Int32 → HH → Prop} {i : Int32} {v : Int32}  {k : Nat} (e : i = nI k) (hk : k < 30) (kk : E X d Ca_sendAlong 135 L st (pI h 47 k v) Q) : E X d Ca_sendAlong 134 L (.int v :: .int i :: .ref 47 :: st) h Q := by
  subst e
  exact Ca_sendAlong_134  (vp_in_nI hk (by omega)) (by rw [nI_clamp (show k < 2 ^ 31 by omega)]; exact kk)
theorem Ca_sendAlong_141n {X : SX} {d : Nat} {L : List Value} {st : List Value} {h : HH} {Q : Int32 → HH → Prop} {i : Int32}  {k : Nat} (e : i = nI k) (hk : k < 30) (kk : E X d Ca_sendAlong 142 L (.int (h.1 45 k) :: st) h Q) : E X d Ca_sendAlong 141 L (.int i :: .ref 45 :: st) h Q := by
  subst e
  exact Ca_sendAlong_141  (vp_in_nI hk (by omega)) (by rw [nI_clamp (show k < 2 ^ 31 by omega)]; exact kk)
theorem Ca_drive_16n {X : SX} {d : Nat} {L : List Value} {st : List Value} {h : HH} {Q : Int32 → HH → Prop} {i : Int32}  {k : Nat} (e : i = nI k) (hk : k < 12) (kk : E X d Ca_drive 17 L (.int (h.1 12 k) :: st) h Q) : E X d Ca_drive 16 L (.int i :: .ref 12 :: st) h Q := by
  subst e
  exact Ca_drive_16  (vp_in_nI hk (by omega)) (by rw [nI_clamp (show k < 2 ^ 31 by omega)]; exact kk)
theorem Ca_drive_23n {X : SX} {d : Nat} {L : List Value} {st : List Value} {h : HH} {Q : Int32 → HH → Prop} {i : Int32}  {k : Nat} (e : i = nI k) (hk : k < 12) (kk : E X d Ca_drive 24 L (.int (h.1 44 k) :: st) h Q) : E X d Ca_drive 23 L (.int i :: .ref 44 :: st) h Q := by
  subst e
  exact Ca_drive_23  (vp_in_nI hk (by omega)) (by rw [nI_clamp (show k < 2 ^ 31 by omega)]; exact kk)
theorem Ca_drive_34n {X : SX} {d : Nat} {L : List Value} {st : List Value} {h : HH} {Q : Int32 → HH → Prop} {i : Int32}  {k : Nat} (e : i = nI k) (hk : k < 12) (kk : E X d Ca_drive 35 L (.int (h.1 13 k) :: st) h Q) : E X d Ca_drive 34 L (.int i :: .ref 13 :: st) h Q := by
  subst e
  exact Ca_drive_34  (vp_in_nI hk (by omega)) (by rw [nI_clamp (show k < 2 ^ 31 by omega)]; exact kk)
theorem Ca_drive_41n {X : SX} {d : Nat} {L : List Value} {st : List Value} {h : HH} {Q : Int32 → HH → Prop} {i : Int32}  {k : Nat} (e : i = nI k) (hk : k < 12) (kk : E X d Ca_drive 42 L (.int (h.1 44 k) :: st) h Q) : E X d Ca_drive 41 L (.int i :: .ref 44 :: st) h Q := by
  subst e
  exact Ca_drive_41  (vp_in_nI hk (by omega)) (by rw [nI_clamp (show k < 2 ^ 31 by omega)]; exact kk)
theorem Ca_priceOf_18n {X : SX} {d : Nat} {L : List Value} {st : List Value} {h : HH} {Q : Int32 → HH → Prop} {i : Int32}  {k : Nat} (e : i = nI k) (hk : k < 12) (kk : E X d Ca_priceOf 19 L (.int (h.1 44 k) :: st) h Q) : E X d Ca_priceOf 18 L (.int i :: .ref 44 :: st) h Q := by
  subst e
  exact Ca_priceOf_18  (vp_in_nI hk (by omega)) (by rw [nI_clamp (show k < 2 ^ 31 by omega)]; exact kk)
theorem Ca_priceOf_24n {X : SX} {d : Nat} {L : List Value} {st : List Value} {h : HH} {Q : Int32 → HH → Prop} {i : Int32}  {k : Nat} (e : i = nI k) (hk : k < 12) (kk : E X d Ca_priceOf 25 L (.int (h.1 15 k) :: st) h Q) : E X d Ca_priceOf 24 L (.int i :: .ref 15 :: st) h Q := by
  subst e
  exact Ca_priceOf_24  (vp_in_nI hk (by omega)) (by rw [nI_clamp (show k < 2 ^ 31 by omega)]; exact kk)
theorem Ac_from_30n {X : SX} {d : Nat} {L : List Value} {st : List Value} {h : HH} {Q : Int32 → HH → Prop} {i : Int32} {k : Nat} (e : i = nI k) (hk : k < 24) (kk : E X d Ac_from 31 L (.int (kBodies k) :: st) h Q) : E X d Ac_from 30 L (.int i :: .ref 1001 :: st) h Q := by
  subst e
  exact Ac_from_30  (vp_in_nI hk (by omega)) (by rw [nI_clamp (show k < 2 ^ 31 by omega)]; exact kk)
theorem Ac_from_39n {X : SX} {d : Nat} {L : List Value} {st : List Value} {h : HH} {Q : Int32 → HH → Prop} {i : Int32} {k : Nat} (e : i = nI k) (hk : k < 6) (kk : E X d Ac_from 40 L (.int (kAbove k) :: st) h Q) : E X d Ac_from 39 L (.int i :: .ref 1000 :: st) h Q := by
  subst e
  exact Ac_from_39  (vp_in_nI hk (by omega)) (by rw [nI_clamp (show k < 2 ^ 31 by omega)]; exact kk)
theorem Ac_from_75n {X : SX} {d : Nat} {L : List Value} {st : List Value} {h : HH} {Q : Int32 → HH → Prop} {i : Int32} {k : Nat} (e : i = nI k) (hk : k < 24) (kk : E X d Ac_from 76 L (.int (kBodies k) :: st) h Q) : E X d Ac_from 75 L (.int i :: .ref 1001 :: st) h Q := by
  subst e
  exact Ac_from_75  (vp_in_nI hk (by omega)) (by rw [nI_clamp (show k < 2 ^ 31 by omega)]; exact kk)
theorem Ac_from_81n {X : SX} {d : Nat} {L : List Value} {st : List Value} {h : HH} {Q : Int32 → HH → Prop} {i : Int32} {k : Nat} (e : i = nI k) (hk : k < 6) (kk : E X d Ac_from 82 L (.int (kAbove k) :: st) h Q) : E X d Ac_from 81 L (.int i :: .ref 1000 :: st) h Q := by
  subst e
  exact Ac_from_81  (vp_in_nI hk (by omega)) (by rw [nI_clamp (show k < 2 ^ 31 by omega)]; exact kk)
theorem Ac_keepInTrace_18n {X : SX} {d : Nat} {L : List Value} {st : List Value} {h : HH} {Q : Int32 → HH → Prop} {i : Int32} {v : Int32}  {k : Nat} (e : i = nI k) (hk : k < 50) (kk : E X d Ac_keepInTrace 19 L st (pI h 52 k v) Q) : E X d Ac_keepInTrace 18 L (.int v :: .int i :: .ref 52 :: st) h Q := by
  subst e
  exact Ac_keepInTrace_18  (vp_in_nI hk (by omega)) (by rw [nI_clamp (show k < 2 ^ 31 by omega)]; exact kk)
theorem Sh_lay_6n {X : SX} {d : Nat} {L : List Value} {st : List Value} {h : HH} {Q : Int32 → HH → Prop} {i : Int32} {v : Int32}  {k : Nat} (e : i = nI k) (hk : k < 4) (kk : E X d Sh_lay 7 L st (pI h 54 k v) Q) : E X d Sh_lay 6 L (.int v :: .int i :: .ref 54 :: st) h Q := by
  subst e
  exact Sh_lay_6  (vp_in_nI hk (by omega)) (by rw [nI_clamp (show k < 2 ^ 31 by omega)]; exact kk)
theorem Sh_lay_13n {X : SX} {d : Nat} {L : List Value} {st : List Value} {h : HH} {Q : Int32 → HH → Prop} {i : Int32} {v : Int32}  {k : Nat} (e : i = nI k) (hk : k < 4) (kk : E X d Sh_lay 14 L st (pI h 55 k v) Q) : E X d Sh_lay 13 L (.int v :: .int i :: .ref 55 :: st) h Q := by
  subst e
  exact Sh_lay_13  (vp_in_nI hk (by omega)) (by rw [nI_clamp (show k < 2 ^ 31 by omega)]; exact kk)
theorem Sh_put_15n {X : SX} {d : Nat} {L : List Value} {st : List Value} {h : HH} {Q : Int32 → HH → Prop} {i : Int32}  {k : Nat} (e : i = nI k) (hk : k < 4) (kk : E X d Sh_put 16 L (.int (h.1 54 k) :: st) h Q) : E X d Sh_put 15 L (.int i :: .ref 54 :: st) h Q := by
  subst e
  exact Sh_put_15  (vp_in_nI hk (by omega)) (by rw [nI_clamp (show k < 2 ^ 31 by omega)]; exact kk)
theorem Sh_put_25n {X : SX} {d : Nat} {L : List Value} {st : List Value} {h : HH} {Q : Int32 → HH → Prop} {i : Int32} {v : Int32}  {k : Nat} (e : i = nI k) (hk : k < 160) (kk : E X d Sh_put 26 L st (pI h 56 k v) Q) : E X d Sh_put 25 L (.int v :: .int i :: .ref 56 :: st) h Q := by
  subst e
  exact Sh_put_25  (vp_in_nI hk (by omega)) (by rw [nI_clamp (show k < 2 ^ 31 by omega)]; exact kk)
theorem Sh_isMissing_5n {X : SX} {d : Nat} {L : List Value} {st : List Value} {h : HH} {Q : Int32 → HH → Prop} {i : Int32}  {k : Nat} (e : i = nI k) (hk : k < 4) (kk : E X d Sh_isMissing 6 L (.int (h.1 54 k) :: st) h Q) : E X d Sh_isMissing 5 L (.int i :: .ref 54 :: st) h Q := by
  subst e
  exact Sh_isMissing_5  (vp_in_nI hk (by omega)) (by rw [nI_clamp (show k < 2 ^ 31 by omega)]; exact kk)
theorem Sh_spans_10n {X : SX} {d : Nat} {L : List Value} {st : List Value} {h : HH} {Q : Int32 → HH → Prop} {i : Int32}  {k : Nat} (e : i = nI k) (hk : k < 4) (kk : E X d Sh_spans 11 L (.int (h.1 55 k) :: st) h Q) : E X d Sh_spans 10 L (.int i :: .ref 55 :: st) h Q := by
  subst e
  exact Sh_spans_10  (vp_in_nI hk (by omega)) (by rw [nI_clamp (show k < 2 ^ 31 by omega)]; exact kk)
theorem Sh_faultAs_16n {X : SX} {d : Nat} {L : List Value} {st : List Value} {h : HH} {Q : Int32 → HH → Prop} {i : Int32}  {k : Nat} (e : i = nI k) (hk : k < 4) (kk : E X d Sh_faultAs 17 L (.int (h.1 54 k) :: st) h Q) : E X d Sh_faultAs 16 L (.int i :: .ref 54 :: st) h Q := by
  subst e
  exact Sh_faultAs_16  (vp_in_nI hk (by omega)) (by rw [nI_clamp (show k < 2 ^ 31 by omega)]; exact kk)
theorem Sh_get_10n {X : SX} {d : Nat} {L : List Value} {st : List Value} {h : HH} {Q : Int32 → HH → Prop} {i : Int32}  {k : Nat} (e : i = nI k) (hk : k < 160) (kk : E X d Sh_get 11 L (.int (h.1 56 k) :: st) h Q) : E X d Sh_get 10 L (.int i :: .ref 56 :: st) h Q := by
  subst e
  exact Sh_get_10  (vp_in_nI hk (by omega)) (by rw [nI_clamp (show k < 2 ^ 31 by omega)]; exact kk)
theorem FC_was_40n {X : SX} {d : Nat} {L : List Value} {st : List Value} {h : HH} {Q : Int32 → HH → Prop} {i : Int32}  {k : Nat} (e : i = nI k) (hk : k < 360) (kk : E X d FC_was 41 L (.int (h.1 20 k) :: st) h Q) : E X d FC_was 40 L (.int i :: .ref 20 :: st) h Q := by
  subst e
  exact FC_was_40  (vp_in_nI hk (by omega)) (by rw [nI_clamp (show k < 2 ^ 31 by omega)]; exact kk)
theorem FC_loaded_79n {X : SX} {d : Nat} {L : List Value} {st : List Value} {h : HH} {Q : Int32 → HH → Prop} {i : Int32}  {k : Nat} (e : i = nI k) (hk : k < 12) (kk : E X d FC_loaded 80 L (.int (h.1 44 k) :: st) h Q) : E X d FC_loaded 79 L (.int i :: .ref 44 :: st) h Q := by
  subst e
  exact FC_loaded_79  (vp_in_nI hk (by omega)) (by rw [nI_clamp (show k < 2 ^ 31 by omega)]; exact kk)
theorem FC_trace_25n {X : SX} {d : Nat} {L : List Value} {st : List Value} {h : HH} {Q : Int32 → HH → Prop} {i : Int32}  {k : Nat} (e : i = nI k) (hk : k < 50) (kk : E X d FC_trace 26 L (.int (h.1 52 k) :: st) h Q) : E X d FC_trace 25 L (.int i :: .ref 52 :: st) h Q := by
  subst e
  exact FC_trace_25  (vp_in_nI hk (by omega)) (by rw [nI_clamp (show k < 2 ^ 31 by omega)]; exact kk)
theorem FC_isUnder_28n {X : SX} {d : Nat} {L : List Value} {st : List Value} {h : HH} {Q : Int32 → HH → Prop} {i : Int32} {k : Nat} (e : i = nI k) (hk : k < 6) (kk : E X d FC_isUnder 29 L (.int (kAbove k) :: st) h Q) : E X d FC_isUnder 28 L (.int i :: .ref 1000 :: st) h Q := by
  subst e
  exact FC_isUnder_28  (vp_in_nI hk (by omega)) (by rw [nI_clamp (show k < 2 ^ 31 by omega)]; exact kk)
theorem FM_district_52n {X : SX} {d : Nat} {L : List Value} {st : List Value} {h : HH} {Q : Int32 → HH → Prop} {i : Int32} {v : Int32}  {k : Nat} (e : i = nI k) (hk : k < 6) (kk : E X d FM_district 53 L st (pI h 58 k v) Q) : E X d FM_district 52 L (.int v :: .int i :: .ref 58 :: st) h Q := by
  subst e
  exact FM_district_52  (vp_in_nI hk (by omega)) (by rw [nI_clamp (show k < 2 ^ 31 by omega)]; exact kk)
theorem FM_district_59n {X : SX} {d : Nat} {L : List Value} {st : List Value} {h : HH} {Q : Int32 → HH → Prop} {i : Int32} {v : Int32}  {k : Nat} (e : i = nI k) (hk : k < 6) (kk : E X d FM_district 60 L st (pI h 59 k v) Q) : E X d FM_district 59 L (.int v :: .int i :: .ref 59 :: st) h Q := by
  subst e
  exact FM_district_59  (vp_in_nI hk (by omega)) (by rw [nI_clamp (show k < 2 ^ 31 by omega)]; exact kk)
theorem FM_district_66n {X : SX} {d : Nat} {L : List Value} {st : List Value} {h : HH} {Q : Int32 → HH → Prop} {i : Int32} {v : Int32}  {k : Nat} (e : i = nI k) (hk : k < 6) (kk : E X d FM_district 67 L st (pI h 62 k v) Q) : E X d FM_district 66 L (.int v :: .int i :: .ref 62 :: st) h Q := by
  subst e
  exact FM_district_66  (vp_in_nI hk (by omega)) (by rw [nI_clamp (show k < 2 ^ 31 by omega)]; exact kk)
theorem FM_district_89n {X : SX} {d : Nat} {L : List Value} {st : List Value} {h : HH} {Q : Int32 → HH → Prop} {i : Int32} {v : Int32}  {k : Nat} (e : i = nI k) (hk : k < 18) (kk : E X d FM_district 90 L st (pI h 60 k v) Q) : E X d FM_district 89 L (.int v :: .int i :: .ref 60 :: st) h Q := by
  subst e
  exact FM_district_89  (vp_in_nI hk (by omega)) (by rw [nI_clamp (show k < 2 ^ 31 by omega)]; exact kk)
theorem FM_district_97n {X : SX} {d : Nat} {L : List Value} {st : List Value} {h : HH} {Q : Int32 → HH → Prop} {i : Int32} {v : Int32}  {k : Nat} (e : i = nI k) (hk : k < 18) (kk : E X d FM_district 98 L st (pI h 61 k v) Q) : E X d FM_district 97 L (.int v :: .int i :: .ref 61 :: st) h Q := by
  subst e
  exact FM_district_97  (vp_in_nI hk (by omega)) (by rw [nI_clamp (show k < 2 ^ 31 by omega)]; exact kk)
theorem FM_district_105n {X : SX} {d : Nat} {L : List Value} {st : List Value} {h : HH} {Q : Int32 → HH → Prop} {i : Int32} {v : Int32}  {k : Nat} (e : i = nI k) (hk : k < 18) (kk : E X d FM_district 106 L st (pI h 63 k v) Q) : E X d FM_district 105 L (.int v :: .int i :: .ref 63 :: st) h Q := by
  subst e
  exact FM_district_105  (vp_in_nI hk (by omega)) (by rw [nI_clamp (show k < 2 ^ 31 by omega)]; exact kk)
theorem FM_district_113n {X : SX} {d : Nat} {L : List Value} {st : List Value} {h : HH} {Q : Int32 → HH → Prop} {i : Int32} {v : Int32}  {k : Nat} (e : i = nI k) (hk : k < 18) (kk : E X d FM_district 114 L st (pI h 64 k v) Q) : E X d FM_district 113 L (.int v :: .int i :: .ref 64 :: st) h Q := by
  subst e
  exact FM_district_113  (vp_in_nI hk (by omega)) (by rw [nI_clamp (show k < 2 ^ 31 by omega)]; exact kk)
theorem FM_people_35n {X : SX} {d : Nat} {L : List Value} {st : List Value} {h : HH} {Q : Int32 → HH → Prop} {i : Int32}  {k : Nat} (e : i = nI k) (hk : k < 18) (kk : E X d FM_people 36 L (.int (h.1 60 k) :: st) h Q) : E X d FM_people 35 L (.int i :: .ref 60 :: st) h Q := by
  subst e
  exact FM_people_35  (vp_in_nI hk (by omega)) (by rw [nI_clamp (show k < 2 ^ 31 by omega)]; exact kk)
theorem FM_people_48n {X : SX} {d : Nat} {L : List Value} {st : List Value} {h : HH} {Q : Int32 → HH → Prop} {i : Int32} {v : Int32}  {k : Nat} (e : i = nI k) (hk : k < 18) (kk : E X d FM_people 49 L st (pI h 60 k v) Q) : E X d FM_people 48 L (.int v :: .int i :: .ref 60 :: st) h Q := by
  subst e
  exact FM_people_48  (vp_in_nI hk (by omega)) (by rw [nI_clamp (show k < 2 ^ 31 by omega)]; exact kk)
theorem FM_coins_34n {X : SX} {d : Nat} {L : List Value} {st : List Value} {h : HH} {Q : Int32 → HH → Prop} {i : Int32}  {k : Nat} (e : i = nI k) (hk : k < 18) (kk : E X d FM_coins 35 L (.int (h.1 61 k) :: st) h Q) : E X d FM_coins 34 L (.int i :: .ref 61 :: st) h Q := by
  subst e
  exact FM_coins_34  (vp_in_nI hk (by omega)) (by rw [nI_clamp (show k < 2 ^ 31 by omega)]; exact kk)
theorem FM_coins_47n {X : SX} {d : Nat} {L : List Value} {st : List Value} {h : HH} {Q : Int32 → HH → Prop} {i : Int32} {v : Int32}  {k : Nat} (e : i = nI k) (hk : k < 18) (kk : E X d FM_coins 48 L st (pI h 61 k v) Q) : E X d FM_coins 47 L (.int v :: .int i :: .ref 61 :: st) h Q := by
  subst e
  exact FM_coins_47  (vp_in_nI hk (by omega)) (by rw [nI_clamp (show k < 2 ^ 31 by omega)]; exact kk)
theorem FM_price_29n {X : SX} {d : Nat} {L : List Value} {st : List Value} {h : HH} {Q : Int32 → HH → Prop} {i : Int32}  {k : Nat} (e : i = nI k) (hk : k < 6) (kk : E X d FM_price 30 L (.int (h.1 59 k) :: st) h Q) : E X d FM_price 29 L (.int i :: .ref 59 :: st) h Q := by
  subst e
  exact FM_price_29  (vp_in_nI hk (by omega)) (by rw [nI_clamp (show k < 2 ^ 31 by omega)]; exact kk)
theorem FM_price_37n {X : SX} {d : Nat} {L : List Value} {st : List Value} {h : HH} {Q : Int32 → HH → Prop} {i : Int32} {v : Int32}  {k : Nat} (e : i = nI k) (hk : k < 6) (kk : E X d FM_price 38 L st (pI h 59 k v) Q) : E X d FM_price 37 L (.int v :: .int i :: .ref 59 :: st) h Q := by
  subst e
  exact FM_price_37  (vp_in_nI hk (by omega)) (by rw [nI_clamp (show k < 2 ^ 31 by omega)]; exact kk)
theorem FM_tells_9n {X : SX} {d : Nat} {L : List Value} {st : List Value} {h : HH} {Q : Int32 → HH → Prop} {i : Int32} {v : Int32}  {k : Nat} (e : i = nI k) (hk : k < 200) (kk : E X d FM_tells 10 L st (pI h 66 k v) Q) : E X d FM_tells 9 L (.int v :: .int i :: .ref 66 :: st) h Q := by
  subst e
  exact FM_tells_9  (vp_in_nI hk (by omega)) (by rw [nI_clamp (show k < 2 ^ 31 by omega)]; exact kk)
theorem FM_tells_19n {X : SX} {d : Nat} {L : List Value} {st : List Value} {h : HH} {Q : Int32 → HH → Prop} {i : Int32} {v : Int32}  {k : Nat} (e : i = nI k) (hk : k < 200) (kk : E X d FM_tells 20 L st (pI h 67 k v) Q) : E X d FM_tells 19 L (.int v :: .int i :: .ref 67 :: st) h Q := by
  subst e
  exact FM_tells_19  (vp_in_nI hk (by omega)) (by rw [nI_clamp (show k < 2 ^ 31 by omega)]; exact kk)
theorem FM_tells_29n {X : SX} {d : Nat} {L : List Value} {st : List Value} {h : HH} {Q : Int32 → HH → Prop} {i : Int32} {v : Int32}  {k : Nat} (e : i = nI k) (hk : k < 200) (kk : E X d FM_tells 30 L st (pI h 68 k v) Q) : E X d FM_tells 29 L (.int v :: .int i :: .ref 68 :: st) h Q := by
  subst e
  exact FM_tells_29  (vp_in_nI hk (by omega)) (by rw [nI_clamp (show k < 2 ^ 31 by omega)]; exact kk)
theorem FM_tells_42n {X : SX} {d : Nat} {L : List Value} {st : List Value} {h : HH} {Q : Int32 → HH → Prop} {i : Int32} {v : Int32}  {k : Nat} (e : i = nI k) (hk : k < 200) (kk : E X d FM_tells 43 L st (pI h 69 k v) Q) : E X d FM_tells 42 L (.int v :: .int i :: .ref 69 :: st) h Q := by
  subst e
  exact FM_tells_42  (vp_in_nI hk (by omega)) (by rw [nI_clamp (show k < 2 ^ 31 by omega)]; exact kk)
theorem FM_tells_53n {X : SX} {d : Nat} {L : List Value} {st : List Value} {h : HH} {Q : Int32 → HH → Prop} {i : Int32} {v : Int32}  {k : Nat} (e : i = nI k) (hk : k < 200) (kk : E X d FM_tells 54 L st (pI h 70 k v) Q) : E X d FM_tells 53 L (.int v :: .int i :: .ref 70 :: st) h Q := by
  subst e
  exact FM_tells_53  (vp_in_nI hk (by omega)) (by rw [nI_clamp (show k < 2 ^ 31 by omega)]; exact kk)
theorem FM_line_103n {X : SX} {d : Nat} {L : List Value} {st : List Value} {h : HH} {Q : Int32 → HH → Prop} {i : Int32} {v : Int32}  {k : Nat} (e : i = nI k) (hk : k < 12) (kk : E X d FM_line 104 L st (pI h 71 k v) Q) : E X d FM_line 103 L (.int v :: .int i :: .ref 71 :: st) h Q := by
  subst e
  exact FM_line_103  (vp_in_nI hk (by omega)) (by rw [nI_clamp (show k < 2 ^ 31 by omega)]; exact kk)
theorem FM_line_115n {X : SX} {d : Nat} {L : List Value} {st : List Value} {h : HH} {Q : Int32 → HH → Prop} {i : Int32} {v : Int32}  {k : Nat} (e : i = nI k) (hk : k < 12) (kk : E X d FM_line 116 L st (pI h 72 k v) Q) : E X d FM_line 115 L (.int v :: .int i :: .ref 72 :: st) h Q := by
  subst e
  exact FM_line_115  (vp_in_nI hk (by omega)) (by rw [nI_clamp (show k < 2 ^ 31 by omega)]; exact kk)
theorem FM_line_130n {X : SX} {d : Nat} {L : List Value} {st : List Value} {h : HH} {Q : Int32 → HH → Prop} {i : Int32} {v : Int32}  {k : Nat} (e : i = nI k) (hk : k < 12) (kk : E X d FM_line 131 L st (pI h 73 k v) Q) : E X d FM_line 130 L (.int v :: .int i :: .ref 73 :: st) h Q := by
  subst e
  exact FM_line_130  (vp_in_nI hk (by omega)) (by rw [nI_clamp (show k < 2 ^ 31 by omega)]; exact kk)
theorem FM_line_143n {X : SX} {d : Nat} {L : List Value} {st : List Value} {h : HH} {Q : Int32 → HH → Prop} {i : Int32} {v : Int32}  {k : Nat} (e : i = nI k) (hk : k < 12) (kk : E X d FM_line 144 L st (pI h 74 k v) Q) : E X d FM_line 143 L (.int v :: .int i :: .ref 74 :: st) h Q := by
  subst e
  exact FM_line_143  (vp_in_nI hk (by omega)) (by rw [nI_clamp (show k < 2 ^ 31 by omega)]; exact kk)
theorem FM_line_153n {X : SX} {d : Nat} {L : List Value} {st : List Value} {h : HH} {Q : Int32 → HH → Prop} {i : Int32} {v : Int32}  {k : Nat} (e : i = nI k) (hk : k < 12) (kk : E X d FM_line 154 L st (pI h 75 k v) Q) : E X d FM_line 153 L (.int v :: .int i :: .ref 75 :: st) h Q := by
  subst e
  exact FM_line_153  (vp_in_nI hk (by omega)) (by rw [nI_clamp (show k < 2 ^ 31 by omega)]; exact kk)
theorem FM_line_164n {X : SX} {d : Nat} {L : List Value} {st : List Value} {h : HH} {Q : Int32 → HH → Prop} {i : Int32} {v : Int32}  {k : Nat} (e : i = nI k) (hk : k < 12) (kk : E X d FM_line 165 L st (pI h 76 k (vp_nar .boolean v)) Q) : E X d FM_line 164 L (.int v :: .int i :: .ref 76 :: st) h Q := by
  subst e
  exact FM_line_164  (vp_in_nI hk (by omega)) (by rw [nI_clamp (show k < 2 ^ 31 by omega)]; exact kk)
theorem FM_line_175n {X : SX} {d : Nat} {L : List Value} {st : List Value} {h : HH} {Q : Int32 → HH → Prop} {i : Int32} {v : Int32}  {k : Nat} (e : i = nI k) (hk : k < 12) (kk : E X d FM_line 176 L st (pI h 77 k v) Q) : E X d FM_line 175 L (.int v :: .int i :: .ref 77 :: st) h Q := by
  subst e
  exact FM_line_175  (vp_in_nI hk (by omega)) (by rw [nI_clamp (show k < 2 ^ 31 by omega)]; exact kk)
theorem FM_line_188n {X : SX} {d : Nat} {L : List Value} {st : List Value} {h : HH} {Q : Int32 → HH → Prop} {i : Int32} {v : Int32}  {k : Nat} (e : i = nI k) (hk : k < 12) (kk : E X d FM_line 189 L st (pI h 78 k v) Q) : E X d FM_line 188 L (.int v :: .int i :: .ref 78 :: st) h Q := by
  subst e
  exact FM_line_188  (vp_in_nI hk (by omega)) (by rw [nI_clamp (show k < 2 ^ 31 by omega)]; exact kk)
theorem FM_line_198n {X : SX} {d : Nat} {L : List Value} {st : List Value} {h : HH} {Q : Int32 → HH → Prop} {i : Int32} {v : Int32}  {k : Nat} (e : i = nI k) (hk : k < 12) (kk : E X d FM_line 199 L st (pI h 79 k v) Q) : E X d FM_line 198 L (.int v :: .int i :: .ref 79 :: st) h Q := by
  subst e
  exact FM_line_198  (vp_in_nI hk (by omega)) (by rw [nI_clamp (show k < 2 ^ 31 by omega)]; exact kk)
theorem FM_end_19n {X : SX} {d : Nat} {L : List Value} {st : List Value} {h : HH} {Q : Int32 → HH → Prop} {i : Int32}  {k : Nat} (e : i = nI k) (hk : k < 12) (kk : E X d FM_end 20 L (.int (h.1 79 k) :: st) h Q) : E X d FM_end 19 L (.int i :: .ref 79 :: st) h Q := by
  subst e
  exact FM_end_19  (vp_in_nI hk (by omega)) (by rw [nI_clamp (show k < 2 ^ 31 by omega)]; exact kk)
theorem FM_end_39n {X : SX} {d : Nat} {L : List Value} {st : List Value} {h : HH} {Q : Int32 → HH → Prop} {i : Int32} {v : Int32}  {k : Nat} (e : i = nI k) (hk : k < 12) (kk : E X d FM_end 40 L st (pI h 79 k v) Q) : E X d FM_end 39 L (.int v :: .int i :: .ref 79 :: st) h Q := by
  subst e
  exact FM_end_39  (vp_in_nI hk (by omega)) (by rw [nI_clamp (show k < 2 ^ 31 by omega)]; exact kk)
theorem FM_signKnown_19n {X : SX} {d : Nat} {L : List Value} {st : List Value} {h : HH} {Q : Int32 → HH → Prop} {i : Int32}  {k : Nat} (e : i = nI k) (hk : k < 200) (kk : E X d FM_signKnown 20 L (.int (h.1 66 k) :: st) h Q) : E X d FM_signKnown 19 L (.int i :: .ref 66 :: st) h Q := by
  subst e
  exact FM_signKnown_19  (vp_in_nI hk (by omega)) (by rw [nI_clamp (show k < 2 ^ 31 by omega)]; exact kk)
theorem FM_signKnown_30n {X : SX} {d : Nat} {L : List Value} {st : List Value} {h : HH} {Q : Int32 → HH → Prop} {i : Int32}  {k : Nat} (e : i = nI k) (hk : k < 200) (kk : E X d FM_signKnown 31 L (.int (h.1 67 k) :: st) h Q) : E X d FM_signKnown 30 L (.int i :: .ref 67 :: st) h Q := by
  subst e
  exact FM_signKnown_30  (vp_in_nI hk (by omega)) (by rw [nI_clamp (show k < 2 ^ 31 by omega)]; exact kk)
theorem FM_signKnown_41n {X : SX} {d : Nat} {L : List Value} {st : List Value} {h : HH} {Q : Int32 → HH → Prop} {i : Int32}  {k : Nat} (e : i = nI k) (hk : k < 200) (kk : E X d FM_signKnown 42 L (.int (h.1 68 k) :: st) h Q) : E X d FM_signKnown 41 L (.int i :: .ref 68 :: st) h Q := by
  subst e
  exact FM_signKnown_41  (vp_in_nI hk (by omega)) (by rw [nI_clamp (show k < 2 ^ 31 by omega)]; exact kk)
theorem FM_signKnown_52n {X : SX} {d : Nat} {L : List Value} {st : List Value} {h : HH} {Q : Int32 → HH → Prop} {i : Int32}  {k : Nat} (e : i = nI k) (hk : k < 200) (kk : E X d FM_signKnown 53 L (.int (h.1 69 k) :: st) h Q) : E X d FM_signKnown 52 L (.int i :: .ref 69 :: st) h Q := by
  subst e
  exact FM_signKnown_52  (vp_in_nI hk (by omega)) (by rw [nI_clamp (show k < 2 ^ 31 by omega)]; exact kk)
theorem FM_signKnown_64n {X : SX} {d : Nat} {L : List Value} {st : List Value} {h : HH} {Q : Int32 → HH → Prop} {i : Int32}  {k : Nat} (e : i = nI k) (hk : k < 200) (kk : E X d FM_signKnown 65 L (.int (h.1 70 k) :: st) h Q) : E X d FM_signKnown 64 L (.int i :: .ref 70 :: st) h Q := by
  subst e
  exact FM_signKnown_64  (vp_in_nI hk (by omega)) (by rw [nI_clamp (show k < 2 ^ 31 by omega)]; exact kk)
theorem FM_holdsAt_30n {X : SX} {d : Nat} {L : List Value} {st : List Value} {h : HH} {Q : Int32 → HH → Prop} {i : Int32}  {k : Nat} (e : i = nI k) (hk : k < 12) (kk : E X d FM_holdsAt 31 L (.int (h.1 77 k) :: st) h Q) : E X d FM_holdsAt 30 L (.int i :: .ref 77 :: st) h Q := by
  subst e
  exact FM_holdsAt_30  (vp_in_nI hk (by omega)) (by rw [nI_clamp (show k < 2 ^ 31 by omega)]; exact kk)
theorem FM_tests_15n {X : SX} {d : Nat} {L : List Value} {st : List Value} {h : HH} {Q : Int32 → HH → Prop} {i : Int32}  {k : Nat} (e : i = nI k) (hk : k < 12) (kk : E X d FM_tests 16 L (.int (h.1 73 k) :: st) h Q) : E X d FM_tests 15 L (.int i :: .ref 73 :: st) h Q := by
  subst e
  exact FM_tests_15  (vp_in_nI hk (by omega)) (by rw [nI_clamp (show k < 2 ^ 31 by omega)]; exact kk)
theorem FM_tests_45n {X : SX} {d : Nat} {L : List Value} {st : List Value} {h : HH} {Q : Int32 → HH → Prop} {i : Int32}  {k : Nat} (e : i = nI k) (hk : k < 12) (kk : E X d FM_tests 46 L (.int (h.1 72 k) :: st) h Q) : E X d FM_tests 45 L (.int i :: .ref 72 :: st) h Q := by
  subst e
  exact FM_tests_45  (vp_in_nI hk (by omega)) (by rw [nI_clamp (show k < 2 ^ 31 by omega)]; exact kk)
theorem FM_tests_95n {X : SX} {d : Nat} {L : List Value} {st : List Value} {h : HH} {Q : Int32 → HH → Prop} {i : Int32}  {k : Nat} (e : i = nI k) (hk : k < 12) (kk : E X d FM_tests 96 L (.int (h.1 75 k) :: st) h Q) : E X d FM_tests 95 L (.int i :: .ref 75 :: st) h Q := by
  subst e
  exact FM_tests_95  (vp_in_nI hk (by omega)) (by rw [nI_clamp (show k < 2 ^ 31 by omega)]; exact kk)
theorem FM_tests_136n {X : SX} {d : Nat} {L : List Value} {st : List Value} {h : HH} {Q : Int32 → HH → Prop} {i : Int32}  {k : Nat} (e : i = nI k) (hk : k < 12) (kk : E X d FM_tests 137 L (.int (h.1 74 k) :: st) h Q) : E X d FM_tests 136 L (.int i :: .ref 74 :: st) h Q := by
  subst e
  exact FM_tests_136  (vp_in_nI hk (by omega)) (by rw [nI_clamp (show k < 2 ^ 31 by omega)]; exact kk)
theorem FM_tests_150n {X : SX} {d : Nat} {L : List Value} {st : List Value} {h : HH} {Q : Int32 → HH → Prop} {i : Int32}  {k : Nat} (e : i = nI k) (hk : k < 12) (kk : E X d FM_tests 151 L (.int (h.1 76 k) :: st) h Q) : E X d FM_tests 150 L (.int i :: .ref 76 :: st) h Q := by
  subst e
  exact FM_tests_150  (vp_in_nI hk (by omega)) (by rw [nI_clamp (show k < 2 ^ 31 by omega)]; exact kk)
theorem FM_tests_161n {X : SX} {d : Nat} {L : List Value} {st : List Value} {h : HH} {Q : Int32 → HH → Prop} {i : Int32}  {k : Nat} (e : i = nI k) (hk : k < 12) (kk : E X d FM_tests 162 L (.int (h.1 75 k) :: st) h Q) : E X d FM_tests 161 L (.int i :: .ref 75 :: st) h Q := by
  subst e
  exact FM_tests_161  (vp_in_nI hk (by omega)) (by rw [nI_clamp (show k < 2 ^ 31 by omega)]; exact kk)
theorem FM_tests_176n {X : SX} {d : Nat} {L : List Value} {st : List Value} {h : HH} {Q : Int32 → HH → Prop} {i : Int32}  {k : Nat} (e : i = nI k) (hk : k < 12) (kk : E X d FM_tests 177 L (.int (h.1 74 k) :: st) h Q) : E X d FM_tests 176 L (.int i :: .ref 74 :: st) h Q := by
  subst e
  exact FM_tests_176  (vp_in_nI hk (by omega)) (by rw [nI_clamp (show k < 2 ^ 31 by omega)]; exact kk)
theorem FM_tests_196n {X : SX} {d : Nat} {L : List Value} {st : List Value} {h : HH} {Q : Int32 → HH → Prop} {i : Int32}  {k : Nat} (e : i = nI k) (hk : k < 12) (kk : E X d FM_tests 197 L (.int (h.1 76 k) :: st) h Q) : E X d FM_tests 196 L (.int i :: .ref 76 :: st) h Q := by
  subst e
  exact FM_tests_196  (vp_in_nI hk (by omega)) (by rw [nI_clamp (show k < 2 ^ 31 by omega)]; exact kk)
theorem FM_tests_221n {X : SX} {d : Nat} {L : List Value} {st : List Value} {h : HH} {Q : Int32 → HH → Prop} {i : Int32}  {k : Nat} (e : i = nI k) (hk : k < 12) (kk : E X d FM_tests 222 L (.int (h.1 76 k) :: st) h Q) : E X d FM_tests 221 L (.int i :: .ref 76 :: st) h Q := by
  subst e
  exact FM_tests_221  (vp_in_nI hk (by omega)) (by rw [nI_clamp (show k < 2 ^ 31 by omega)]; exact kk)
theorem FM_bits_54n {X : SX} {d : Nat} {L : List Value} {st : List Value} {h : HH} {Q : Int32 → HH → Prop} {i : Int32}  {k : Nat} (e : i = nI k) (hk : k < 12) (kk : E X d FM_bits 55 L (.int (h.1 71 k) :: st) h Q) : E X d FM_bits 54 L (.int i :: .ref 71 :: st) h Q := by
  subst e
  exact FM_bits_54  (vp_in_nI hk (by omega)) (by rw [nI_clamp (show k < 2 ^ 31 by omega)]; exact kk)
theorem FM_isInForce_5n {X : SX} {d : Nat} {L : List Value} {st : List Value} {h : HH} {Q : Int32 → HH → Prop} {i : Int32}  {k : Nat} (e : i = nI k) (hk : k < 12) (kk : E X d FM_isInForce 6 L (.int (h.1 78 k) :: st) h Q) : E X d FM_isInForce 5 L (.int i :: .ref 78 :: st) h Q := by
  subst e
  exact FM_isInForce_5  (vp_in_nI hk (by omega)) (by rw [nI_clamp (show k < 2 ^ 31 by omega)]; exact kk)
theorem FM_isInForce_15n {X : SX} {d : Nat} {L : List Value} {st : List Value} {h : HH} {Q : Int32 → HH → Prop} {i : Int32}  {k : Nat} (e : i = nI k) (hk : k < 12) (kk : E X d FM_isInForce 16 L (.int (h.1 79 k) :: st) h Q) : E X d FM_isInForce 15 L (.int i :: .ref 79 :: st) h Q := by
  subst e
  exact FM_isInForce_15  (vp_in_nI hk (by omega)) (by rw [nI_clamp (show k < 2 ^ 31 by omega)]; exact kk)
theorem FM_isInForce_26n {X : SX} {d : Nat} {L : List Value} {st : List Value} {h : HH} {Q : Int32 → HH → Prop} {i : Int32}  {k : Nat} (e : i = nI k) (hk : k < 12) (kk : E X d FM_isInForce 27 L (.int (h.1 79 k) :: st) h Q) : E X d FM_isInForce 26 L (.int i :: .ref 79 :: st) h Q := by
  subst e
  exact FM_isInForce_26  (vp_in_nI hk (by omega)) (by rw [nI_clamp (show k < 2 ^ 31 by omega)]; exact kk)
theorem FM_why_52n {X : SX} {d : Nat} {L : List Value} {st : List Value} {h : HH} {Q : Int32 → HH → Prop} {i : Int32}  {k : Nat} (e : i = nI k) (hk : k < 12) (kk : E X d FM_why 53 L (.int (h.1 71 k) :: st) h Q) : E X d FM_why 52 L (.int i :: .ref 71 :: st) h Q := by
  subst e
  exact FM_why_52  (vp_in_nI hk (by omega)) (by rw [nI_clamp (show k < 2 ^ 31 by omega)]; exact kk)
theorem FM_was_32n {X : SX} {d : Nat} {L : List Value} {st : List Value} {h : HH} {Q : Int32 → HH → Prop} {i : Int32}  {k : Nat} (e : i = nI k) (hk : k < 360) (kk : E X d FM_was 33 L (.int (h.1 65 k) :: st) h Q) : E X d FM_was 32 L (.int i :: .ref 65 :: st) h Q := by
  subst e
  exact FM_was_32  (vp_in_nI hk (by omega)) (by rw [nI_clamp (show k < 2 ^ 31 by omega)]; exact kk)
theorem FM_week_60n {X : SX} {d : Nat} {L : List Value} {st : List Value} {h : HH} {Q : Int32 → HH → Prop} {i : Int32} {v : Int32}  {k : Nat} (e : i = nI k) (hk : k < 360) (kk : E X d FM_week 61 L st (pI h 65 k v) Q) : E X d FM_week 60 L (.int v :: .int i :: .ref 65 :: st) h Q := by
  subst e
  exact FM_week_60  (vp_in_nI hk (by omega)) (by rw [nI_clamp (show k < 2 ^ 31 by omega)]; exact kk)
theorem FM_lives_17n {X : SX} {d : Nat} {L : List Value} {st : List Value} {h : HH} {Q : Int32 → HH → Prop} {i : Int32}  {k : Nat} (e : i = nI k) (hk : k < 18) (kk : E X d FM_lives 18 L (.int (h.1 60 k) :: st) h Q) : E X d FM_lives 17 L (.int i :: .ref 60 :: st) h Q := by
  subst e
  exact FM_lives_17  (vp_in_nI hk (by omega)) (by rw [nI_clamp (show k < 2 ^ 31 by omega)]; exact kk)
theorem FM_lives_23n {X : SX} {d : Nat} {L : List Value} {st : List Value} {h : HH} {Q : Int32 → HH → Prop} {i : Int32}  {k : Nat} (e : i = nI k) (hk : k < 6) (kk : E X d FM_lives 24 L (.int (h.1 58 k) :: st) h Q) : E X d FM_lives 23 L (.int i :: .ref 58 :: st) h Q := by
  subst e
  exact FM_lives_23  (vp_in_nI hk (by omega)) (by rw [nI_clamp (show k < 2 ^ 31 by omega)]; exact kk)
theorem FM_lives_38n {X : SX} {d : Nat} {L : List Value} {st : List Value} {h : HH} {Q : Int32 → HH → Prop} {i : Int32}  {k : Nat} (e : i = nI k) (hk : k < 6) (kk : E X d FM_lives 39 L (.int (h.1 58 k) :: st) h Q) : E X d FM_lives 38 L (.int i :: .ref 58 :: st) h Q := by
  subst e
  exact FM_lives_38  (vp_in_nI hk (by omega)) (by rw [nI_clamp (show k < 2 ^ 31 by omega)]; exact kk)
theorem FM_lives_41n {X : SX} {d : Nat} {L : List Value} {st : List Value} {h : HH} {Q : Int32 → HH → Prop} {i : Int32} {v : Int32}  {k : Nat} (e : i = nI k) (hk : k < 6) (kk : E X d FM_lives 42 L st (pI h 58 k v) Q) : E X d FM_lives 41 L (.int v :: .int i :: .ref 58 :: st) h Q := by
  subst e
  exact FM_lives_41  (vp_in_nI hk (by omega)) (by rw [nI_clamp (show k < 2 ^ 31 by omega)]; exact kk)
theorem FM_lives_79n {X : SX} {d : Nat} {L : List Value} {st : List Value} {h : HH} {Q : Int32 → HH → Prop} {i : Int32}  {k : Nat} (e : i = nI k) (hk : k < 18) (kk : E X d FM_lives 80 L (.int (h.1 60 k) :: st) h Q) : E X d FM_lives 79 L (.int i :: .ref 60 :: st) h Q := by
  subst e
  exact FM_lives_79  (vp_in_nI hk (by omega)) (by rw [nI_clamp (show k < 2 ^ 31 by omega)]; exact kk)
theorem FM_lives_102n {X : SX} {d : Nat} {L : List Value} {st : List Value} {h : HH} {Q : Int32 → HH → Prop} {i : Int32}  {k : Nat} (e : i = nI k) (hk : k < 6) (kk : E X d FM_lives 103 L (.int (h.1 58 k) :: st) h Q) : E X d FM_lives 102 L (.int i :: .ref 58 :: st) h Q := by
  subst e
  exact FM_lives_102  (vp_in_nI hk (by omega)) (by rw [nI_clamp (show k < 2 ^ 31 by omega)]; exact kk)
theorem FM_lives_109n {X : SX} {d : Nat} {L : List Value} {st : List Value} {h : HH} {Q : Int32 → HH → Prop} {i : Int32}  {k : Nat} (e : i = nI k) (hk : k < 18) (kk : E X d FM_lives 110 L (.int (h.1 61 k) :: st) h Q) : E X d FM_lives 109 L (.int i :: .ref 61 :: st) h Q := by
  subst e
  exact FM_lives_109  (vp_in_nI hk (by omega)) (by rw [nI_clamp (show k < 2 ^ 31 by omega)]; exact kk)
theorem FM_lives_115n {X : SX} {d : Nat} {L : List Value} {st : List Value} {h : HH} {Q : Int32 → HH → Prop} {i : Int32}  {k : Nat} (e : i = nI k) (hk : k < 6) (kk : E X d FM_lives 116 L (.int (h.1 59 k) :: st) h Q) : E X d FM_lives 115 L (.int i :: .ref 59 :: st) h Q := by
  subst e
  exact FM_lives_115  (vp_in_nI hk (by omega)) (by rw [nI_clamp (show k < 2 ^ 31 by omega)]; exact kk)
theorem FM_lives_131n {X : SX} {d : Nat} {L : List Value} {st : List Value} {h : HH} {Q : Int32 → HH → Prop} {i : Int32}  {k : Nat} (e : i = nI k) (hk : k < 6) (kk : E X d FM_lives 132 L (.int (h.1 58 k) :: st) h Q) : E X d FM_lives 131 L (.int i :: .ref 58 :: st) h Q := by
  subst e
  exact FM_lives_131  (vp_in_nI hk (by omega)) (by rw [nI_clamp (show k < 2 ^ 31 by omega)]; exact kk)
theorem FM_lives_135n {X : SX} {d : Nat} {L : List Value} {st : List Value} {h : HH} {Q : Int32 → HH → Prop} {i : Int32} {v : Int32}  {k : Nat} (e : i = nI k) (hk : k < 6) (kk : E X d FM_lives 136 L st (pI h 58 k v) Q) : E X d FM_lives 135 L (.int v :: .int i :: .ref 58 :: st) h Q := by
  subst e
  exact FM_lives_135  (vp_in_nI hk (by omega)) (by rw [nI_clamp (show k < 2 ^ 31 by omega)]; exact kk)
theorem FM_lives_143n {X : SX} {d : Nat} {L : List Value} {st : List Value} {h : HH} {Q : Int32 → HH → Prop} {i : Int32}  {k : Nat} (e : i = nI k) (hk : k < 18) (kk : E X d FM_lives 144 L (.int (h.1 61 k) :: st) h Q) : E X d FM_lives 143 L (.int i :: .ref 61 :: st) h Q := by
  subst e
  exact FM_lives_143  (vp_in_nI hk (by omega)) (by rw [nI_clamp (show k < 2 ^ 31 by omega)]; exact kk)
theorem FM_lives_151n {X : SX} {d : Nat} {L : List Value} {st : List Value} {h : HH} {Q : Int32 → HH → Prop} {i : Int32}  {k : Nat} (e : i = nI k) (hk : k < 6) (kk : E X d FM_lives 152 L (.int (h.1 59 k) :: st) h Q) : E X d FM_lives 151 L (.int i :: .ref 59 :: st) h Q := by
  subst e
  exact FM_lives_151  (vp_in_nI hk (by omega)) (by rw [nI_clamp (show k < 2 ^ 31 by omega)]; exact kk)
theorem FM_lives_154n {X : SX} {d : Nat} {L : List Value} {st : List Value} {h : HH} {Q : Int32 → HH → Prop} {i : Int32} {v : Int32}  {k : Nat} (e : i = nI k) (hk : k < 18) (kk : E X d FM_lives 155 L st (pI h 61 k v) Q) : E X d FM_lives 154 L (.int v :: .int i :: .ref 61 :: st) h Q := by
  subst e
  exact FM_lives_154  (vp_in_nI hk (by omega)) (by rw [nI_clamp (show k < 2 ^ 31 by omega)]; exact kk)
theorem FM_lives_167n {X : SX} {d : Nat} {L : List Value} {st : List Value} {h : HH} {Q : Int32 → HH → Prop} {i : Int32}  {k : Nat} (e : i = nI k) (hk : k < 6) (kk : E X d FM_lives 168 L (.int (h.1 59 k) :: st) h Q) : E X d FM_lives 167 L (.int i :: .ref 59 :: st) h Q := by
  subst e
  exact FM_lives_167  (vp_in_nI hk (by omega)) (by rw [nI_clamp (show k < 2 ^ 31 by omega)]; exact kk)
theorem FM_lives_187n {X : SX} {d : Nat} {L : List Value} {st : List Value} {h : HH} {Q : Int32 → HH → Prop} {i : Int32}  {k : Nat} (e : i = nI k) (hk : k < 18) (kk : E X d FM_lives 188 L (.int (h.1 63 k) :: st) h Q) : E X d FM_lives 187 L (.int i :: .ref 63 :: st) h Q := by
  subst e
  exact FM_lives_187  (vp_in_nI hk (by omega)) (by rw [nI_clamp (show k < 2 ^ 31 by omega)]; exact kk)
theorem FM_lives_191n {X : SX} {d : Nat} {L : List Value} {st : List Value} {h : HH} {Q : Int32 → HH → Prop} {i : Int32} {v : Int32}  {k : Nat} (e : i = nI k) (hk : k < 18) (kk : E X d FM_lives 192 L st (pI h 63 k v) Q) : E X d FM_lives 191 L (.int v :: .int i :: .ref 63 :: st) h Q := by
  subst e
  exact FM_lives_191  (vp_in_nI hk (by omega)) (by rw [nI_clamp (show k < 2 ^ 31 by omega)]; exact kk)
theorem FM_lives_199n {X : SX} {d : Nat} {L : List Value} {st : List Value} {h : HH} {Q : Int32 → HH → Prop} {i : Int32}  {k : Nat} (e : i = nI k) (hk : k < 18) (kk : E X d FM_lives 200 L (.int (h.1 64 k) :: st) h Q) : E X d FM_lives 199 L (.int i :: .ref 64 :: st) h Q := by
  subst e
  exact FM_lives_199  (vp_in_nI hk (by omega)) (by rw [nI_clamp (show k < 2 ^ 31 by omega)]; exact kk)
theorem FM_lives_206n {X : SX} {d : Nat} {L : List Value} {st : List Value} {h : HH} {Q : Int32 → HH → Prop} {i : Int32} {v : Int32}  {k : Nat} (e : i = nI k) (hk : k < 18) (kk : E X d FM_lives 207 L st (pI h 64 k v) Q) : E X d FM_lives 206 L (.int v :: .int i :: .ref 64 :: st) h Q := by
  subst e
  exact FM_lives_206  (vp_in_nI hk (by omega)) (by rw [nI_clamp (show k < 2 ^ 31 by omega)]; exact kk)
theorem FM_lives_214n {X : SX} {d : Nat} {L : List Value} {st : List Value} {h : HH} {Q : Int32 → HH → Prop} {i : Int32}  {k : Nat} (e : i = nI k) (hk : k < 18) (kk : E X d FM_lives 215 L (.int (h.1 60 k) :: st) h Q) : E X d FM_lives 214 L (.int i :: .ref 60 :: st) h Q := by
  subst e
  exact FM_lives_214  (vp_in_nI hk (by omega)) (by rw [nI_clamp (show k < 2 ^ 31 by omega)]; exact kk)
theorem FM_lives_221n {X : SX} {d : Nat} {L : List Value} {st : List Value} {h : HH} {Q : Int32 → HH → Prop} {i : Int32} {v : Int32}  {k : Nat} (e : i = nI k) (hk : k < 18) (kk : E X d FM_lives 222 L st (pI h 60 k v) Q) : E X d FM_lives 221 L (.int v :: .int i :: .ref 60 :: st) h Q := by
  subst e
  exact FM_lives_221  (vp_in_nI hk (by omega)) (by rw [nI_clamp (show k < 2 ^ 31 by omega)]; exact kk)
theorem FM_pays_41n {X : SX} {d : Nat} {L : List Value} {st : List Value} {h : HH} {Q : Int32 → HH → Prop} {i : Int32}  {k : Nat} (e : i = nI k) (hk : k < 18) (kk : E X d FM_pays 42 L (.int (h.1 60 k) :: st) h Q) : E X d FM_pays 41 L (.int i :: .ref 60 :: st) h Q := by
  subst e
  exact FM_pays_41  (vp_in_nI hk (by omega)) (by rw [nI_clamp (show k < 2 ^ 31 by omega)]; exact kk)
theorem FM_pays_72n {X : SX} {d : Nat} {L : List Value} {st : List Value} {h : HH} {Q : Int32 → HH → Prop} {i : Int32}  {k : Nat} (e : i = nI k) (hk : k < 18) (kk : E X d FM_pays 73 L (.int (h.1 60 k) :: st) h Q) : E X d FM_pays 72 L (.int i :: .ref 60 :: st) h Q := by
  subst e
  exact FM_pays_72  (vp_in_nI hk (by omega)) (by rw [nI_clamp (show k < 2 ^ 31 by omega)]; exact kk)
theorem FM_pays_95n {X : SX} {d : Nat} {L : List Value} {st : List Value} {h : HH} {Q : Int32 → HH → Prop} {i : Int32}  {k : Nat} (e : i = nI k) (hk : k < 18) (kk : E X d FM_pays 96 L (.int (h.1 60 k) :: st) h Q) : E X d FM_pays 95 L (.int i :: .ref 60 :: st) h Q := by
  subst e
  exact FM_pays_95  (vp_in_nI hk (by omega)) (by rw [nI_clamp (show k < 2 ^ 31 by omega)]; exact kk)
theorem FM_gets_10n {X : SX} {d : Nat} {L : List Value} {st : List Value} {h : HH} {Q : Int32 → HH → Prop} {i : Int32}  {k : Nat} (e : i = nI k) (hk : k < 18) (kk : E X d FM_gets 11 L (.int (h.1 61 k) :: st) h Q) : E X d FM_gets 10 L (.int i :: .ref 61 :: st) h Q := by
  subst e
  exact FM_gets_10  (vp_in_nI hk (by omega)) (by rw [nI_clamp (show k < 2 ^ 31 by omega)]; exact kk)
theorem FM_gets_28n {X : SX} {d : Nat} {L : List Value} {st : List Value} {h : HH} {Q : Int32 → HH → Prop} {i : Int32}  {k : Nat} (e : i = nI k) (hk : k < 18) (kk : E X d FM_gets 29 L (.int (h.1 61 k) :: st) h Q) : E X d FM_gets 28 L (.int i :: .ref 61 :: st) h Q := by
  subst e
  exact FM_gets_28  (vp_in_nI hk (by omega)) (by rw [nI_clamp (show k < 2 ^ 31 by omega)]; exact kk)
theorem FM_gets_31n {X : SX} {d : Nat} {L : List Value} {st : List Value} {h : HH} {Q : Int32 → HH → Prop} {i : Int32} {v : Int32}  {k : Nat} (e : i = nI k) (hk : k < 18) (kk : E X d FM_gets 32 L st (pI h 61 k v) Q) : E X d FM_gets 31 L (.int v :: .int i :: .ref 61 :: st) h Q := by
  subst e
  exact FM_gets_31  (vp_in_nI hk (by omega)) (by rw [nI_clamp (show k < 2 ^ 31 by omega)]; exact kk)
theorem FM_lends_15n {X : SX} {d : Nat} {L : List Value} {st : List Value} {h : HH} {Q : Int32 → HH → Prop} {i : Int32}  {k : Nat} (e : i = nI k) (hk : k < 6) (kk : E X d FM_lends 16 L (.int (h.1 62 k) :: st) h Q) : E X d FM_lends 15 L (.int i :: .ref 62 :: st) h Q := by
  subst e
  exact FM_lends_15  (vp_in_nI hk (by omega)) (by rw [nI_clamp (show k < 2 ^ 31 by omega)]; exact kk)
theorem FM_lends_18n {X : SX} {d : Nat} {L : List Value} {st : List Value} {h : HH} {Q : Int32 → HH → Prop} {i : Int32} {v : Int32}  {k : Nat} (e : i = nI k) (hk : k < 6) (kk : E X d FM_lends 19 L st (pI h 62 k v) Q) : E X d FM_lends 18 L (.int v :: .int i :: .ref 62 :: st) h Q := by
  subst e
  exact FM_lends_18  (vp_in_nI hk (by omega)) (by rw [nI_clamp (show k < 2 ^ 31 by omega)]; exact kk)
theorem FM_lends_38n {X : SX} {d : Nat} {L : List Value} {st : List Value} {h : HH} {Q : Int32 → HH → Prop} {i : Int32}  {k : Nat} (e : i = nI k) (hk : k < 18) (kk : E X d FM_lends 39 L (.int (h.1 60 k) :: st) h Q) : E X d FM_lends 38 L (.int i :: .ref 60 :: st) h Q := by
  subst e
  exact FM_lends_38  (vp_in_nI hk (by omega)) (by rw [nI_clamp (show k < 2 ^ 31 by omega)]; exact kk)
theorem FM_lends_57n {X : SX} {d : Nat} {L : List Value} {st : List Value} {h : HH} {Q : Int32 → HH → Prop} {i : Int32}  {k : Nat} (e : i = nI k) (hk : k < 6) (kk : E X d FM_lends 58 L (.int (h.1 62 k) :: st) h Q) : E X d FM_lends 57 L (.int i :: .ref 62 :: st) h Q := by
  subst e
  exact FM_lends_57  (vp_in_nI hk (by omega)) (by rw [nI_clamp (show k < 2 ^ 31 by omega)]; exact kk)
theorem FM_lends_60n {X : SX} {d : Nat} {L : List Value} {st : List Value} {h : HH} {Q : Int32 → HH → Prop} {i : Int32} {v : Int32}  {k : Nat} (e : i = nI k) (hk : k < 6) (kk : E X d FM_lends 61 L st (pI h 62 k v) Q) : E X d FM_lends 60 L (.int v :: .int i :: .ref 62 :: st) h Q := by
  subst e
  exact FM_lends_60  (vp_in_nI hk (by omega)) (by rw [nI_clamp (show k < 2 ^ 31 by omega)]; exact kk)
theorem FM_way_73n {X : SX} {d : Nat} {L : List Value} {st : List Value} {h : HH} {Q : Int32 → HH → Prop} {i : Int32} {v : Int32}  {k : Nat} (e : i = nI k) (hk : k < 12) (kk : E X d FM_way 74 L st (pI h 80 k v) Q) : E X d FM_way 73 L (.int v :: .int i :: .ref 80 :: st) h Q := by
  subst e
  exact FM_way_73  (vp_in_nI hk (by omega)) (by rw [nI_clamp (show k < 2 ^ 31 by omega)]; exact kk)
theorem FM_way_83n {X : SX} {d : Nat} {L : List Value} {st : List Value} {h : HH} {Q : Int32 → HH → Prop} {i : Int32} {v : Int32}  {k : Nat} (e : i = nI k) (hk : k < 12) (kk : E X d FM_way 84 L st (pI h 81 k v) Q) : E X d FM_way 83 L (.int v :: .int i :: .ref 81 :: st) h Q := by
  subst e
  exact FM_way_83  (vp_in_nI hk (by omega)) (by rw [nI_clamp (show k < 2 ^ 31 by omega)]; exact kk)
theorem FM_way_93n {X : SX} {d : Nat} {L : List Value} {st : List Value} {h : HH} {Q : Int32 → HH → Prop} {i : Int32} {v : Int32}  {k : Nat} (e : i = nI k) (hk : k < 12) (kk : E X d FM_way 94 L st (pI h 82 k v) Q) : E X d FM_way 93 L (.int v :: .int i :: .ref 82 :: st) h Q := by
  subst e
  exact FM_way_93  (vp_in_nI hk (by omega)) (by rw [nI_clamp (show k < 2 ^ 31 by omega)]; exact kk)
theorem FM_way_104n {X : SX} {d : Nat} {L : List Value} {st : List Value} {h : HH} {Q : Int32 → HH → Prop} {i : Int32} {v : Int32}  {k : Nat} (e : i = nI k) (hk : k < 12) (kk : E X d FM_way 105 L st (pI h 83 k v) Q) : E X d FM_way 104 L (.int v :: .int i :: .ref 83 :: st) h Q := by
  subst e
  exact FM_way_104  (vp_in_nI hk (by omega)) (by rw [nI_clamp (show k < 2 ^ 31 by omega)]; exact kk)
theorem FM_work_59n {X : SX} {d : Nat} {L : List Value} {st : List Value} {h : HH} {Q : Int32 → HH → Prop} {i : Int32} {v : Int32}  {k : Nat} (e : i = nI k) (hk : k < 8) (kk : E X d FM_work 60 L st (pI h 84 k v) Q) : E X d FM_work 59 L (.int v :: .int i :: .ref 84 :: st) h Q := by
  subst e
  exact FM_work_59  (vp_in_nI hk (by omega)) (by rw [nI_clamp (show k < 2 ^ 31 by omega)]; exact kk)
theorem FM_work_69n {X : SX} {d : Nat} {L : List Value} {st : List Value} {h : HH} {Q : Int32 → HH → Prop} {i : Int32} {v : Int32}  {k : Nat} (e : i = nI k) (hk : k < 8) (kk : E X d FM_work 70 L st (pI h 85 k v) Q) : E X d FM_work 69 L (.int v :: .int i :: .ref 85 :: st) h Q := by
  subst e
  exact FM_work_69  (vp_in_nI hk (by omega)) (by rw [nI_clamp (show k < 2 ^ 31 by omega)]; exact kk)
theorem FM_work_79n {X : SX} {d : Nat} {L : List Value} {st : List Value} {h : HH} {Q : Int32 → HH → Prop} {i : Int32} {v : Int32}  {k : Nat} (e : i = nI k) (hk : k < 8) (kk : E X d FM_work 80 L st (pI h 86 k v) Q) : E X d FM_work 79 L (.int v :: .int i :: .ref 86 :: st) h Q := by
  subst e
  exact FM_work_79  (vp_in_nI hk (by omega)) (by rw [nI_clamp (show k < 2 ^ 31 by omega)]; exact kk)
theorem FM_findLoad_24n {X : SX} {d : Nat} {L : List Value} {st : List Value} {h : HH} {Q : Int32 → HH → Prop} {i : Int32}  {k : Nat} (e : i = nI k) (hk : k < 12) (kk : E X d FM_findLoad 25 L (.int (h.1 82 k) :: st) h Q) : E X d FM_findLoad 24 L (.int i :: .ref 82 :: st) h Q := by
  subst e
  exact FM_findLoad_24  (vp_in_nI hk (by omega)) (by rw [nI_clamp (show k < 2 ^ 31 by omega)]; exact kk)
theorem FM_findLoad_25n {X : SX} {d : Nat} {L : List Value} {st : List Value} {h : HH} {Q : Int32 → HH → Prop} {i : Int32} {v : Int32}  {k : Nat} (e : i = nI k) (hk : k < 12) (kk : E X d FM_findLoad 26 L st (pI h 87 k v) Q) : E X d FM_findLoad 25 L (.int v :: .int i :: .ref 87 :: st) h Q := by
  subst e
  exact FM_findLoad_25  (vp_in_nI hk (by omega)) (by rw [nI_clamp (show k < 2 ^ 31 by omega)]; exact kk)
theorem FM_findLoad_74n {X : SX} {d : Nat} {L : List Value} {st : List Value} {h : HH} {Q : Int32 → HH → Prop} {i : Int32}  {k : Nat} (e : i = nI k) (hk : k < 12) (kk : E X d FM_findLoad 75 L (.int (h.1 87 k) :: st) h Q) : E X d FM_findLoad 74 L (.int i :: .ref 87 :: st) h Q := by
  subst e
  exact FM_findLoad_74  (vp_in_nI hk (by omega)) (by rw [nI_clamp (show k < 2 ^ 31 by omega)]; exact kk)
theorem FM_findLoad_97n {X : SX} {d : Nat} {L : List Value} {st : List Value} {h : HH} {Q : Int32 → HH → Prop} {i : Int32} {v : Int32}  {k : Nat} (e : i = nI k) (hk : k < 12) (kk : E X d FM_findLoad 98 L st (pI h 87 k v) Q) : E X d FM_findLoad 97 L (.int v :: .int i :: .ref 87 :: st) h Q := by
  subst e
  exact FM_findLoad_97  (vp_in_nI hk (by omega)) (by rw [nI_clamp (show k < 2 ^ 31 by omega)]; exact kk)
theorem FM_findLoad_116n {X : SX} {d : Nat} {L : List Value} {st : List Value} {h : HH} {Q : Int32 → HH → Prop} {i : Int32}  {k : Nat} (e : i = nI k) (hk : k < 12) (kk : E X d FM_findLoad 117 L (.int (h.1 87 k) :: st) h Q) : E X d FM_findLoad 116 L (.int i :: .ref 87 :: st) h Q := by
  subst e
  exact FM_findLoad_116  (vp_in_nI hk (by omega)) (by rw [nI_clamp (show k < 2 ^ 31 by omega)]; exact kk)
theorem FM_findLoad_128n {X : SX} {d : Nat} {L : List Value} {st : List Value} {h : HH} {Q : Int32 → HH → Prop} {i : Int32}  {k : Nat} (e : i = nI k) (hk : k < 12) (kk : E X d FM_findLoad 129 L (.int (h.1 87 k) :: st) h Q) : E X d FM_findLoad 128 L (.int i :: .ref 87 :: st) h Q := by
  subst e
  exact FM_findLoad_128  (vp_in_nI hk (by omega)) (by rw [nI_clamp (show k < 2 ^ 31 by omega)]; exact kk)
theorem FM_findLoad_144n {X : SX} {d : Nat} {L : List Value} {st : List Value} {h : HH} {Q : Int32 → HH → Prop} {i : Int32} {v : Int32}  {k : Nat} (e : i = nI k) (hk : k < 12) (kk : E X d FM_findLoad 145 L st (pI h 87 k v) Q) : E X d FM_findLoad 144 L (.int v :: .int i :: .ref 87 :: st) h Q := by
  subst e
  exact FM_findLoad_144  (vp_in_nI hk (by omega)) (by rw [nI_clamp (show k < 2 ^ 31 by omega)]; exact kk)
theorem FM_flow_19n {X : SX} {d : Nat} {L : List Value} {st : List Value} {h : HH} {Q : Int32 → HH → Prop} {i : Int32} {v : Int32}  {k : Nat} (e : i = nI k) (hk : k < 12) (kk : E X d FM_flow 20 L st (pI h 88 k v) Q) : E X d FM_flow 19 L (.int v :: .int i :: .ref 88 :: st) h Q := by
  subst e
  exact FM_flow_19  (vp_in_nI hk (by omega)) (by rw [nI_clamp (show k < 2 ^ 31 by omega)]; exact kk)
theorem FM_flow_50n {X : SX} {d : Nat} {L : List Value} {st : List Value} {h : HH} {Q : Int32 → HH → Prop} {i : Int32}  {k : Nat} (e : i = nI k) (hk : k < 6) (kk : E X d FM_flow 51 L (.int (h.1 58 k) :: st) h Q) : E X d FM_flow 50 L (.int i :: .ref 58 :: st) h Q := by
  subst e
  exact FM_flow_50  (vp_in_nI hk (by omega)) (by rw [nI_clamp (show k < 2 ^ 31 by omega)]; exact kk)
theorem FM_flow_61n {X : SX} {d : Nat} {L : List Value} {st : List Value} {h : HH} {Q : Int32 → HH → Prop} {i : Int32}  {k : Nat} (e : i = nI k) (hk : k < 6) (kk : E X d FM_flow 62 L (.int (h.1 58 k) :: st) h Q) : E X d FM_flow 61 L (.int i :: .ref 58 :: st) h Q := by
  subst e
  exact FM_flow_61  (vp_in_nI hk (by omega)) (by rw [nI_clamp (show k < 2 ^ 31 by omega)]; exact kk)
theorem FM_flow_68n {X : SX} {d : Nat} {L : List Value} {st : List Value} {h : HH} {Q : Int32 → HH → Prop} {i : Int32} {v : Int32}  {k : Nat} (e : i = nI k) (hk : k < 6) (kk : E X d FM_flow 69 L st (pI h 89 k v) Q) : E X d FM_flow 68 L (.int v :: .int i :: .ref 89 :: st) h Q := by
  subst e
  exact FM_flow_68  (vp_in_nI hk (by omega)) (by rw [nI_clamp (show k < 2 ^ 31 by omega)]; exact kk)
theorem FM_flow_96n {X : SX} {d : Nat} {L : List Value} {st : List Value} {h : HH} {Q : Int32 → HH → Prop} {i : Int32}  {k : Nat} (e : i = nI k) (hk : k < 6) (kk : E X d FM_flow 97 L (.int (h.1 90 k) :: st) h Q) : E X d FM_flow 96 L (.int i :: .ref 90 :: st) h Q := by
  subst e
  exact FM_flow_96  (vp_in_nI hk (by omega)) (by rw [nI_clamp (show k < 2 ^ 31 by omega)]; exact kk)
theorem FM_flow_125n {X : SX} {d : Nat} {L : List Value} {st : List Value} {h : HH} {Q : Int32 → HH → Prop} {i : Int32}  {k : Nat} (e : i = nI k) (hk : k < 6) (kk : E X d FM_flow 126 L (.int (h.1 90 k) :: st) h Q) : E X d FM_flow 125 L (.int i :: .ref 90 :: st) h Q := by
  subst e
  exact FM_flow_125  (vp_in_nI hk (by omega)) (by rw [nI_clamp (show k < 2 ^ 31 by omega)]; exact kk)
theorem FM_findFar_25n {X : SX} {d : Nat} {L : List Value} {st : List Value} {h : HH} {Q : Int32 → HH → Prop} {i : Int32}  {k : Nat} (e : i = nI k) (hk : k < 6) (kk : E X d FM_findFar 26 L (.int (h.1 89 k) :: st) h Q) : E X d FM_findFar 25 L (.int i :: .ref 89 :: st) h Q := by
  subst e
  exact FM_findFar_25  (vp_in_nI hk (by omega)) (by rw [nI_clamp (show k < 2 ^ 31 by omega)]; exact kk)
theorem FM_findFar_36n {X : SX} {d : Nat} {L : List Value} {st : List Value} {h : HH} {Q : Int32 → HH → Prop} {i : Int32} {v : Int32}  {k : Nat} (e : i = nI k) (hk : k < 6) (kk : E X d FM_findFar 37 L st (pI h 90 k v) Q) : E X d FM_findFar 36 L (.int v :: .int i :: .ref 90 :: st) h Q := by
  subst e
  exact FM_findFar_36  (vp_in_nI hk (by omega)) (by rw [nI_clamp (show k < 2 ^ 31 by omega)]; exact kk)
theorem FM_findFar_43n {X : SX} {d : Nat} {L : List Value} {st : List Value} {h : HH} {Q : Int32 → HH → Prop} {i : Int32} {v : Int32}  {k : Nat} (e : i = nI k) (hk : k < 6) (kk : E X d FM_findFar 44 L st (pI h 91 k v) Q) : E X d FM_findFar 43 L (.int v :: .int i :: .ref 91 :: st) h Q := by
  subst e
  exact FM_findFar_43  (vp_in_nI hk (by omega)) (by rw [nI_clamp (show k < 2 ^ 31 by omega)]; exact kk)
theorem FM_findFar_75n {X : SX} {d : Nat} {L : List Value} {st : List Value} {h : HH} {Q : Int32 → HH → Prop} {i : Int32}  {k : Nat} (e : i = nI k) (hk : k < 12) (kk : E X d FM_findFar 76 L (.int (h.1 88 k) :: st) h Q) : E X d FM_findFar 75 L (.int i :: .ref 88 :: st) h Q := by
  subst e
  exact FM_findFar_75  (vp_in_nI hk (by omega)) (by rw [nI_clamp (show k < 2 ^ 31 by omega)]; exact kk)
theorem FM_findFar_81n {X : SX} {d : Nat} {L : List Value} {st : List Value} {h : HH} {Q : Int32 → HH → Prop} {i : Int32}  {k : Nat} (e : i = nI k) (hk : k < 12) (kk : E X d FM_findFar 82 L (.int (h.1 87 k) :: st) h Q) : E X d FM_findFar 81 L (.int i :: .ref 87 :: st) h Q := by
  subst e
  exact FM_findFar_81  (vp_in_nI hk (by omega)) (by rw [nI_clamp (show k < 2 ^ 31 by omega)]; exact kk)
theorem FM_findFar_90n {X : SX} {d : Nat} {L : List Value} {st : List Value} {h : HH} {Q : Int32 → HH → Prop} {i : Int32}  {k : Nat} (e : i = nI k) (hk : k < 12) (kk : E X d FM_findFar 91 L (.int (h.1 80 k) :: st) h Q) : E X d FM_findFar 90 L (.int i :: .ref 80 :: st) h Q := by
  subst e
  exact FM_findFar_90  (vp_in_nI hk (by omega)) (by rw [nI_clamp (show k < 2 ^ 31 by omega)]; exact kk)
theorem FM_findFar_101n {X : SX} {d : Nat} {L : List Value} {st : List Value} {h : HH} {Q : Int32 → HH → Prop} {i : Int32}  {k : Nat} (e : i = nI k) (hk : k < 12) (kk : E X d FM_findFar 102 L (.int (h.1 80 k) :: st) h Q) : E X d FM_findFar 101 L (.int i :: .ref 80 :: st) h Q := by
  subst e
  exact FM_findFar_101  (vp_in_nI hk (by omega)) (by rw [nI_clamp (show k < 2 ^ 31 by omega)]; exact kk)
theorem FM_findFar_107n {X : SX} {d : Nat} {L : List Value} {st : List Value} {h : HH} {Q : Int32 → HH → Prop} {i : Int32}  {k : Nat} (e : i = nI k) (hk : k < 12) (kk : E X d FM_findFar 108 L (.int (h.1 81 k) :: st) h Q) : E X d FM_findFar 107 L (.int i :: .ref 81 :: st) h Q := by
  subst e
  exact FM_findFar_107  (vp_in_nI hk (by omega)) (by rw [nI_clamp (show k < 2 ^ 31 by omega)]; exact kk)
theorem FM_findFar_113n {X : SX} {d : Nat} {L : List Value} {st : List Value} {h : HH} {Q : Int32 → HH → Prop} {i : Int32}  {k : Nat} (e : i = nI k) (hk : k < 12) (kk : E X d FM_findFar 114 L (.int (h.1 83 k) :: st) h Q) : E X d FM_findFar 113 L (.int i :: .ref 83 :: st) h Q := by
  subst e
  exact FM_findFar_113  (vp_in_nI hk (by omega)) (by rw [nI_clamp (show k < 2 ^ 31 by omega)]; exact kk)
theorem FM_findFar_123n {X : SX} {d : Nat} {L : List Value} {st : List Value} {h : HH} {Q : Int32 → HH → Prop} {i : Int32}  {k : Nat} (e : i = nI k) (hk : k < 12) (kk : E X d FM_findFar 124 L (.int (h.1 88 k) :: st) h Q) : E X d FM_findFar 123 L (.int i :: .ref 88 :: st) h Q := by
  subst e
  exact FM_findFar_123  (vp_in_nI hk (by omega)) (by rw [nI_clamp (show k < 2 ^ 31 by omega)]; exact kk)
theorem FM_findFar_132n {X : SX} {d : Nat} {L : List Value} {st : List Value} {h : HH} {Q : Int32 → HH → Prop} {i : Int32}  {k : Nat} (e : i = nI k) (hk : k < 12) (kk : E X d FM_findFar 133 L (.int (h.1 81 k) :: st) h Q) : E X d FM_findFar 132 L (.int i :: .ref 81 :: st) h Q := by
  subst e
  exact FM_findFar_132  (vp_in_nI hk (by omega)) (by rw [nI_clamp (show k < 2 ^ 31 by omega)]; exact kk)
theorem FM_findFar_143n {X : SX} {d : Nat} {L : List Value} {st : List Value} {h : HH} {Q : Int32 → HH → Prop} {i : Int32}  {k : Nat} (e : i = nI k) (hk : k < 12) (kk : E X d FM_findFar 144 L (.int (h.1 81 k) :: st) h Q) : E X d FM_findFar 143 L (.int i :: .ref 81 :: st) h Q := by
  subst e
  exact FM_findFar_143  (vp_in_nI hk (by omega)) (by rw [nI_clamp (show k < 2 ^ 31 by omega)]; exact kk)
theorem FM_findFar_149n {X : SX} {d : Nat} {L : List Value} {st : List Value} {h : HH} {Q : Int32 → HH → Prop} {i : Int32}  {k : Nat} (e : i = nI k) (hk : k < 12) (kk : E X d FM_findFar 150 L (.int (h.1 80 k) :: st) h Q) : E X d FM_findFar 149 L (.int i :: .ref 80 :: st) h Q := by
  subst e
  exact FM_findFar_149  (vp_in_nI hk (by omega)) (by rw [nI_clamp (show k < 2 ^ 31 by omega)]; exact kk)
theorem FM_findFar_155n {X : SX} {d : Nat} {L : List Value} {st : List Value} {h : HH} {Q : Int32 → HH → Prop} {i : Int32}  {k : Nat} (e : i = nI k) (hk : k < 12) (kk : E X d FM_findFar 156 L (.int (h.1 83 k) :: st) h Q) : E X d FM_findFar 155 L (.int i :: .ref 83 :: st) h Q := by
  subst e
  exact FM_findFar_155  (vp_in_nI hk (by omega)) (by rw [nI_clamp (show k < 2 ^ 31 by omega)]; exact kk)
theorem FM_reaches_5n {X : SX} {d : Nat} {L : List Value} {st : List Value} {h : HH} {Q : Int32 → HH → Prop} {i : Int32}  {k : Nat} (e : i = nI k) (hk : k < 6) (kk : E X d FM_reaches 6 L (.int (h.1 90 k) :: st) h Q) : E X d FM_reaches 5 L (.int i :: .ref 90 :: st) h Q := by
  subst e
  exact FM_reaches_5  (vp_in_nI hk (by omega)) (by rw [nI_clamp (show k < 2 ^ 31 by omega)]; exact kk)
theorem FM_reaches_17n {X : SX} {d : Nat} {L : List Value} {st : List Value} {h : HH} {Q : Int32 → HH → Prop} {i : Int32}  {k : Nat} (e : i = nI k) (hk : k < 6) (kk : E X d FM_reaches 18 L (.int (h.1 90 k) :: st) h Q) : E X d FM_reaches 17 L (.int i :: .ref 90 :: st) h Q := by
  subst e
  exact FM_reaches_17  (vp_in_nI hk (by omega)) (by rw [nI_clamp (show k < 2 ^ 31 by omega)]; exact kk)
theorem FM_reaches_25n {X : SX} {d : Nat} {L : List Value} {st : List Value} {h : HH} {Q : Int32 → HH → Prop} {i : Int32}  {k : Nat} (e : i = nI k) (hk : k < 6) (kk : E X d FM_reaches 26 L (.int (h.1 90 k) :: st) h Q) : E X d FM_reaches 25 L (.int i :: .ref 90 :: st) h Q := by
  subst e
  exact FM_reaches_25  (vp_in_nI hk (by omega)) (by rw [nI_clamp (show k < 2 ^ 31 by omega)]; exact kk)
theorem FM_reaches_39n {X : SX} {d : Nat} {L : List Value} {st : List Value} {h : HH} {Q : Int32 → HH → Prop} {i : Int32}  {k : Nat} (e : i = nI k) (hk : k < 6) (kk : E X d FM_reaches 40 L (.int (h.1 90 k) :: st) h Q) : E X d FM_reaches 39 L (.int i :: .ref 90 :: st) h Q := by
  subst e
  exact FM_reaches_39  (vp_in_nI hk (by omega)) (by rw [nI_clamp (show k < 2 ^ 31 by omega)]; exact kk)
theorem FM_reaches_42n {X : SX} {d : Nat} {L : List Value} {st : List Value} {h : HH} {Q : Int32 → HH → Prop} {i : Int32} {v : Int32}  {k : Nat} (e : i = nI k) (hk : k < 6) (kk : E X d FM_reaches 43 L st (pI h 90 k v) Q) : E X d FM_reaches 42 L (.int v :: .int i :: .ref 90 :: st) h Q := by
  subst e
  exact FM_reaches_42  (vp_in_nI hk (by omega)) (by rw [nI_clamp (show k < 2 ^ 31 by omega)]; exact kk)
theorem FM_reaches_50n {X : SX} {d : Nat} {L : List Value} {st : List Value} {h : HH} {Q : Int32 → HH → Prop} {i : Int32} {v : Int32}  {k : Nat} (e : i = nI k) (hk : k < 6) (kk : E X d FM_reaches 51 L st (pI h 91 k v) Q) : E X d FM_reaches 50 L (.int v :: .int i :: .ref 91 :: st) h Q := by
  subst e
  exact FM_reaches_50  (vp_in_nI hk (by omega)) (by rw [nI_clamp (show k < 2 ^ 31 by omega)]; exact kk)
theorem FM_widest_11n {X : SX} {d : Nat} {L : List Value} {st : List Value} {h : HH} {Q : Int32 → HH → Prop} {i : Int32}  {k : Nat} (e : i = nI k) (hk : k < 6) (kk : E X d FM_widest 12 L (.int (h.1 91 k) :: st) h Q) : E X d FM_widest 11 L (.int i :: .ref 91 :: st) h Q := by
  subst e
  exact FM_widest_11  (vp_in_nI hk (by omega)) (by rw [nI_clamp (show k < 2 ^ 31 by omega)]; exact kk)
theorem FM_widest_22n {X : SX} {d : Nat} {L : List Value} {st : List Value} {h : HH} {Q : Int32 → HH → Prop} {i : Int32}  {k : Nat} (e : i = nI k) (hk : k < 6) (kk : E X d FM_widest 23 L (.int (h.1 91 k) :: st) h Q) : E X d FM_widest 22 L (.int i :: .ref 91 :: st) h Q := by
  subst e
  exact FM_widest_22  (vp_in_nI hk (by omega)) (by rw [nI_clamp (show k < 2 ^ 31 by omega)]; exact kk)
theorem FM_widest_36n {X : SX} {d : Nat} {L : List Value} {st : List Value} {h : HH} {Q : Int32 → HH → Prop} {i : Int32}  {k : Nat} (e : i = nI k) (hk : k < 6) (kk : E X d FM_widest 37 L (.int (h.1 91 k) :: st) h Q) : E X d FM_widest 36 L (.int i :: .ref 91 :: st) h Q := by
  subst e
  exact FM_widest_36  (vp_in_nI hk (by omega)) (by rw [nI_clamp (show k < 2 ^ 31 by omega)]; exact kk)
theorem FM_widest_48n {X : SX} {d : Nat} {L : List Value} {st : List Value} {h : HH} {Q : Int32 → HH → Prop} {i : Int32}  {k : Nat} (e : i = nI k) (hk : k < 12) (kk : E X d FM_widest 49 L (.int (h.1 87 k) :: st) h Q) : E X d FM_widest 48 L (.int i :: .ref 87 :: st) h Q := by
  subst e
  exact FM_widest_48  (vp_in_nI hk (by omega)) (by rw [nI_clamp (show k < 2 ^ 31 by omega)]; exact kk)
theorem FM_widest_55n {X : SX} {d : Nat} {L : List Value} {st : List Value} {h : HH} {Q : Int32 → HH → Prop} {i : Int32}  {k : Nat} (e : i = nI k) (hk : k < 12) (kk : E X d FM_widest 56 L (.int (h.1 88 k) :: st) h Q) : E X d FM_widest 55 L (.int i :: .ref 88 :: st) h Q := by
  subst e
  exact FM_widest_55  (vp_in_nI hk (by omega)) (by rw [nI_clamp (show k < 2 ^ 31 by omega)]; exact kk)
theorem FM_widest_66n {X : SX} {d : Nat} {L : List Value} {st : List Value} {h : HH} {Q : Int32 → HH → Prop} {i : Int32}  {k : Nat} (e : i = nI k) (hk : k < 12) (kk : E X d FM_widest 67 L (.int (h.1 88 k) :: st) h Q) : E X d FM_widest 66 L (.int i :: .ref 88 :: st) h Q := by
  subst e
  exact FM_widest_66  (vp_in_nI hk (by omega)) (by rw [nI_clamp (show k < 2 ^ 31 by omega)]; exact kk)
theorem FM_widest_77n {X : SX} {d : Nat} {L : List Value} {st : List Value} {h : HH} {Q : Int32 → HH → Prop} {i : Int32}  {k : Nat} (e : i = nI k) (hk : k < 6) (kk : E X d FM_widest 78 L (.int (h.1 91 k) :: st) h Q) : E X d FM_widest 77 L (.int i :: .ref 91 :: st) h Q := by
  subst e
  exact FM_widest_77  (vp_in_nI hk (by omega)) (by rw [nI_clamp (show k < 2 ^ 31 by omega)]; exact kk)
theorem FM_widest_89n {X : SX} {d : Nat} {L : List Value} {st : List Value} {h : HH} {Q : Int32 → HH → Prop} {i : Int32}  {k : Nat} (e : i = nI k) (hk : k < 12) (kk : E X d FM_widest 90 L (.int (h.1 80 k) :: st) h Q) : E X d FM_widest 89 L (.int i :: .ref 80 :: st) h Q := by
  subst e
  exact FM_widest_89  (vp_in_nI hk (by omega)) (by rw [nI_clamp (show k < 2 ^ 31 by omega)]; exact kk)
theorem FM_widest_99n {X : SX} {d : Nat} {L : List Value} {st : List Value} {h : HH} {Q : Int32 → HH → Prop} {i : Int32}  {k : Nat} (e : i = nI k) (hk : k < 12) (kk : E X d FM_widest 100 L (.int (h.1 81 k) :: st) h Q) : E X d FM_widest 99 L (.int i :: .ref 81 :: st) h Q := by
  subst e
  exact FM_widest_99  (vp_in_nI hk (by omega)) (by rw [nI_clamp (show k < 2 ^ 31 by omega)]; exact kk)
theorem FM_widest_113n {X : SX} {d : Nat} {L : List Value} {st : List Value} {h : HH} {Q : Int32 → HH → Prop} {i : Int32}  {k : Nat} (e : i = nI k) (hk : k < 6) (kk : E X d FM_widest 114 L (.int (h.1 89 k) :: st) h Q) : E X d FM_widest 113 L (.int i :: .ref 89 :: st) h Q := by
  subst e
  exact FM_widest_113  (vp_in_nI hk (by omega)) (by rw [nI_clamp (show k < 2 ^ 31 by omega)]; exact kk)
theorem FM_goes_7n {X : SX} {d : Nat} {L : List Value} {st : List Value} {h : HH} {Q : Int32 → HH → Prop} {i : Int32}  {k : Nat} (e : i = nI k) (hk : k < 6) (kk : E X d FM_goes 8 L (.int (h.1 91 k) :: st) h Q) : E X d FM_goes 7 L (.int i :: .ref 91 :: st) h Q := by
  subst e
  exact FM_goes_7  (vp_in_nI hk (by omega)) (by rw [nI_clamp (show k < 2 ^ 31 by omega)]; exact kk)
theorem FM_goes_17n {X : SX} {d : Nat} {L : List Value} {st : List Value} {h : HH} {Q : Int32 → HH → Prop} {i : Int32}  {k : Nat} (e : i = nI k) (hk : k < 6) (kk : E X d FM_goes 18 L (.int (h.1 91 k) :: st) h Q) : E X d FM_goes 17 L (.int i :: .ref 91 :: st) h Q := by
  subst e
  exact FM_goes_17  (vp_in_nI hk (by omega)) (by rw [nI_clamp (show k < 2 ^ 31 by omega)]; exact kk)
theorem FM_goes_30n {X : SX} {d : Nat} {L : List Value} {st : List Value} {h : HH} {Q : Int32 → HH → Prop} {i : Int32}  {k : Nat} (e : i = nI k) (hk : k < 12) (kk : E X d FM_goes 31 L (.int (h.1 88 k) :: st) h Q) : E X d FM_goes 30 L (.int i :: .ref 88 :: st) h Q := by
  subst e
  exact FM_goes_30  (vp_in_nI hk (by omega)) (by rw [nI_clamp (show k < 2 ^ 31 by omega)]; exact kk)
theorem FM_goes_36n {X : SX} {d : Nat} {L : List Value} {st : List Value} {h : HH} {Q : Int32 → HH → Prop} {i : Int32}  {k : Nat} (e : i = nI k) (hk : k < 6) (kk : E X d FM_goes 37 L (.int (h.1 91 k) :: st) h Q) : E X d FM_goes 36 L (.int i :: .ref 91 :: st) h Q := by
  subst e
  exact FM_goes_36  (vp_in_nI hk (by omega)) (by rw [nI_clamp (show k < 2 ^ 31 by omega)]; exact kk)
theorem FM_goes_49n {X : SX} {d : Nat} {L : List Value} {st : List Value} {h : HH} {Q : Int32 → HH → Prop} {i : Int32} {v : Int32}  {k : Nat} (e : i = nI k) (hk : k < 12) (kk : E X d FM_goes 50 L st (pI h 88 k v) Q) : E X d FM_goes 49 L (.int v :: .int i :: .ref 88 :: st) h Q := by
  subst e
  exact FM_goes_49  (vp_in_nI hk (by omega)) (by rw [nI_clamp (show k < 2 ^ 31 by omega)]; exact kk)
theorem FM_goes_55n {X : SX} {d : Nat} {L : List Value} {st : List Value} {h : HH} {Q : Int32 → HH → Prop} {i : Int32}  {k : Nat} (e : i = nI k) (hk : k < 6) (kk : E X d FM_goes 56 L (.int (h.1 91 k) :: st) h Q) : E X d FM_goes 55 L (.int i :: .ref 91 :: st) h Q := by
  subst e
  exact FM_goes_55  (vp_in_nI hk (by omega)) (by rw [nI_clamp (show k < 2 ^ 31 by omega)]; exact kk)
theorem FM_goes_67n {X : SX} {d : Nat} {L : List Value} {st : List Value} {h : HH} {Q : Int32 → HH → Prop} {i : Int32}  {k : Nat} (e : i = nI k) (hk : k < 12) (kk : E X d FM_goes 68 L (.int (h.1 80 k) :: st) h Q) : E X d FM_goes 67 L (.int i :: .ref 80 :: st) h Q := by
  subst e
  exact FM_goes_67  (vp_in_nI hk (by omega)) (by rw [nI_clamp (show k < 2 ^ 31 by omega)]; exact kk)
theorem FM_goes_77n {X : SX} {d : Nat} {L : List Value} {st : List Value} {h : HH} {Q : Int32 → HH → Prop} {i : Int32}  {k : Nat} (e : i = nI k) (hk : k < 12) (kk : E X d FM_goes 78 L (.int (h.1 81 k) :: st) h Q) : E X d FM_goes 77 L (.int i :: .ref 81 :: st) h Q := by
  subst e
  exact FM_goes_77  (vp_in_nI hk (by omega)) (by rw [nI_clamp (show k < 2 ^ 31 by omega)]; exact kk)
theorem FM_goes_88n {X : SX} {d : Nat} {L : List Value} {st : List Value} {h : HH} {Q : Int32 → HH → Prop} {i : Int32}  {k : Nat} (e : i = nI k) (hk : k < 6) (kk : E X d FM_goes 89 L (.int (h.1 89 k) :: st) h Q) : E X d FM_goes 88 L (.int i :: .ref 89 :: st) h Q := by
  subst e
  exact FM_goes_88  (vp_in_nI hk (by omega)) (by rw [nI_clamp (show k < 2 ^ 31 by omega)]; exact kk)
theorem FM_goes_91n {X : SX} {d : Nat} {L : List Value} {st : List Value} {h : HH} {Q : Int32 → HH → Prop} {i : Int32} {v : Int32}  {k : Nat} (e : i = nI k) (hk : k < 6) (kk : E X d FM_goes 92 L st (pI h 89 k v) Q) : E X d FM_goes 91 L (.int v :: .int i :: .ref 89 :: st) h Q := by
  subst e
  exact FM_goes_91  (vp_in_nI hk (by omega)) (by rw [nI_clamp (show k < 2 ^ 31 by omega)]; exact kk)
theorem FM_loaded_50n {X : SX} {d : Nat} {L : List Value} {st : List Value} {h : HH} {Q : Int32 → HH → Prop} {i : Int32}  {k : Nat} (e : i = nI k) (hk : k < 12) (kk : E X d FM_loaded 51 L (.int (h.1 88 k) :: st) h Q) : E X d FM_loaded 50 L (.int i :: .ref 88 :: st) h Q := by
  subst e
  exact FM_loaded_50  (vp_in_nI hk (by omega)) (by rw [nI_clamp (show k < 2 ^ 31 by omega)]; exact kk)
theorem FM_bring_21n {X : SX} {d : Nat} {L : List Value} {st : List Value} {h : HH} {Q : Int32 → HH → Prop} {i : Int32}  {k : Nat} (e : i = nI k) (hk : k < 6) (kk : E X d FM_bring 22 L (.int (h.1 58 k) :: st) h Q) : E X d FM_bring 21 L (.int i :: .ref 58 :: st) h Q := by
  subst e
  exact FM_bring_21  (vp_in_nI hk (by omega)) (by rw [nI_clamp (show k < 2 ^ 31 by omega)]; exact kk)
theorem FM_bring_80n {X : SX} {d : Nat} {L : List Value} {st : List Value} {h : HH} {Q : Int32 → HH → Prop} {i : Int32}  {k : Nat} (e : i = nI k) (hk : k < 12) (kk : E X d FM_bring 81 L (.int (h.1 80 k) :: st) h Q) : E X d FM_bring 80 L (.int i :: .ref 80 :: st) h Q := by
  subst e
  exact FM_bring_80  (vp_in_nI hk (by omega)) (by rw [nI_clamp (show k < 2 ^ 31 by omega)]; exact kk)
theorem FM_bring_82n {X : SX} {d : Nat} {L : List Value} {st : List Value} {h : HH} {Q : Int32 → HH → Prop} {i : Int32}  {k : Nat} (e : i = nI k) (hk : k < 6) (kk : E X d FM_bring 83 L (.int (h.1 58 k) :: st) h Q) : E X d FM_bring 82 L (.int i :: .ref 58 :: st) h Q := by
  subst e
  exact FM_bring_82  (vp_in_nI hk (by omega)) (by rw [nI_clamp (show k < 2 ^ 31 by omega)]; exact kk)
theorem FM_bring_89n {X : SX} {d : Nat} {L : List Value} {st : List Value} {h : HH} {Q : Int32 → HH → Prop} {i : Int32}  {k : Nat} (e : i = nI k) (hk : k < 12) (kk : E X d FM_bring 90 L (.int (h.1 88 k) :: st) h Q) : E X d FM_bring 89 L (.int i :: .ref 88 :: st) h Q := by
  subst e
  exact FM_bring_89  (vp_in_nI hk (by omega)) (by rw [nI_clamp (show k < 2 ^ 31 by omega)]; exact kk)
theorem FM_bring_91n {X : SX} {d : Nat} {L : List Value} {st : List Value} {h : HH} {Q : Int32 → HH → Prop} {i : Int32} {v : Int32}  {k : Nat} (e : i = nI k) (hk : k < 6) (kk : E X d FM_bring 92 L st (pI h 58 k v) Q) : E X d FM_bring 91 L (.int v :: .int i :: .ref 58 :: st) h Q := by
  subst e
  exact FM_bring_91  (vp_in_nI hk (by omega)) (by rw [nI_clamp (show k < 2 ^ 31 by omega)]; exact kk)
theorem FM_bring_102n {X : SX} {d : Nat} {L : List Value} {st : List Value} {h : HH} {Q : Int32 → HH → Prop} {i : Int32}  {k : Nat} (e : i = nI k) (hk : k < 12) (kk : E X d FM_bring 103 L (.int (h.1 81 k) :: st) h Q) : E X d FM_bring 102 L (.int i :: .ref 81 :: st) h Q := by
  subst e
  exact FM_bring_102  (vp_in_nI hk (by omega)) (by rw [nI_clamp (show k < 2 ^ 31 by omega)]; exact kk)
theorem FM_bring_104n {X : SX} {d : Nat} {L : List Value} {st : List Value} {h : HH} {Q : Int32 → HH → Prop} {i : Int32}  {k : Nat} (e : i = nI k) (hk : k < 6) (kk : E X d FM_bring 105 L (.int (h.1 58 k) :: st) h Q) : E X d FM_bring 104 L (.int i :: .ref 58 :: st) h Q := by
  subst e
  exact FM_bring_104  (vp_in_nI hk (by omega)) (by rw [nI_clamp (show k < 2 ^ 31 by omega)]; exact kk)
theorem FM_bring_111n {X : SX} {d : Nat} {L : List Value} {st : List Value} {h : HH} {Q : Int32 → HH → Prop} {i : Int32}  {k : Nat} (e : i = nI k) (hk : k < 12) (kk : E X d FM_bring 112 L (.int (h.1 88 k) :: st) h Q) : E X d FM_bring 111 L (.int i :: .ref 88 :: st) h Q := by
  subst e
  exact FM_bring_111  (vp_in_nI hk (by omega)) (by rw [nI_clamp (show k < 2 ^ 31 by omega)]; exact kk)
theorem FM_bring_113n {X : SX} {d : Nat} {L : List Value} {st : List Value} {h : HH} {Q : Int32 → HH → Prop} {i : Int32} {v : Int32}  {k : Nat} (e : i = nI k) (hk : k < 6) (kk : E X d FM_bring 114 L st (pI h 58 k v) Q) : E X d FM_bring 113 L (.int v :: .int i :: .ref 58 :: st) h Q := by
  subst e
  exact FM_bring_113  (vp_in_nI hk (by omega)) (by rw [nI_clamp (show k < 2 ^ 31 by omega)]; exact kk)
theorem FM_fewest_63n {X : SX} {d : Nat} {L : List Value} {st : List Value} {h : HH} {Q : Int32 → HH → Prop} {i : Int32}  {k : Nat} (e : i = nI k) (hk : k < 8) (kk : E X d FM_fewest 64 L (.int (h.1 84 k) :: st) h Q) : E X d FM_fewest 63 L (.int i :: .ref 84 :: st) h Q := by
  subst e
  exact FM_fewest_63  (vp_in_nI hk (by omega)) (by rw [nI_clamp (show k < 2 ^ 31 by omega)]; exact kk)
theorem FM_reachedBy_37n {X : SX} {d : Nat} {L : List Value} {st : List Value} {h : HH} {Q : Int32 → HH → Prop} {i : Int32}  {k : Nat} (e : i = nI k) (hk : k < 12) (kk : E X d FM_reachedBy 38 L (.int (h.1 80 k) :: st) h Q) : E X d FM_reachedBy 37 L (.int i :: .ref 80 :: st) h Q := by
  subst e
  exact FM_reachedBy_37  (vp_in_nI hk (by omega)) (by rw [nI_clamp (show k < 2 ^ 31 by omega)]; exact kk)
theorem FM_reachedBy_52n {X : SX} {d : Nat} {L : List Value} {st : List Value} {h : HH} {Q : Int32 → HH → Prop} {i : Int32}  {k : Nat} (e : i = nI k) (hk : k < 12) (kk : E X d FM_reachedBy 53 L (.int (h.1 81 k) :: st) h Q) : E X d FM_reachedBy 52 L (.int i :: .ref 81 :: st) h Q := by
  subst e
  exact FM_reachedBy_52  (vp_in_nI hk (by omega)) (by rw [nI_clamp (show k < 2 ^ 31 by omega)]; exact kk)
theorem FM_sumOf_38n {X : SX} {d : Nat} {L : List Value} {st : List Value} {h : HH} {Q : Int32 → HH → Prop} {i : Int32}  {k : Nat} (e : i = nI k) (hk : k < 8) (kk : E X d FM_sumOf 39 L (.int (h.1 85 k) :: st) h Q) : E X d FM_sumOf 38 L (.int i :: .ref 85 :: st) h Q := by
  subst e
  exact FM_sumOf_38  (vp_in_nI hk (by omega)) (by rw [nI_clamp (show k < 2 ^ 31 by omega)]; exact kk)
theorem FM_sumOf_48n {X : SX} {d : Nat} {L : List Value} {st : List Value} {h : HH} {Q : Int32 → HH → Prop} {i : Int32}  {k : Nat} (e : i = nI k) (hk : k < 8) (kk : E X d FM_sumOf 49 L (.int (h.1 86 k) :: st) h Q) : E X d FM_sumOf 48 L (.int i :: .ref 86 :: st) h Q := by
  subst e
  exact FM_sumOf_48  (vp_in_nI hk (by omega)) (by rw [nI_clamp (show k < 2 ^ 31 by omega)]; exact kk)
theorem FM_keep_23n {X : SX} {d : Nat} {L : List Value} {st : List Value} {h : HH} {Q : Int32 → HH → Prop} {i : Int32}  {k : Nat} (e : i = nI k) (hk : k < 6) (kk : E X d FM_keep 24 L (.int (h.1 58 k) :: st) h Q) : E X d FM_keep 23 L (.int i :: .ref 58 :: st) h Q := by
  subst e
  exact FM_keep_23  (vp_in_nI hk (by omega)) (by rw [nI_clamp (show k < 2 ^ 31 by omega)]; exact kk)
theorem FM_keep_24n {X : SX} {d : Nat} {L : List Value} {st : List Value} {h : HH} {Q : Int32 → HH → Prop} {i : Int32} {v : Int32}  {k : Nat} (e : i = nI k) (hk : k < 12) (kk : E X d FM_keep 25 L st (pI h 92 k v) Q) : E X d FM_keep 24 L (.int v :: .int i :: .ref 92 :: st) h Q := by
  subst e
  exact FM_keep_24  (vp_in_nI hk (by omega)) (by rw [nI_clamp (show k < 2 ^ 31 by omega)]; exact kk)
theorem FM_keep_40n {X : SX} {d : Nat} {L : List Value} {st : List Value} {h : HH} {Q : Int32 → HH → Prop} {i : Int32}  {k : Nat} (e : i = nI k) (hk : k < 6) (kk : E X d FM_keep 41 L (.int (h.1 59 k) :: st) h Q) : E X d FM_keep 40 L (.int i :: .ref 59 :: st) h Q := by
  subst e
  exact FM_keep_40  (vp_in_nI hk (by omega)) (by rw [nI_clamp (show k < 2 ^ 31 by omega)]; exact kk)
theorem FM_keep_41n {X : SX} {d : Nat} {L : List Value} {st : List Value} {h : HH} {Q : Int32 → HH → Prop} {i : Int32} {v : Int32}  {k : Nat} (e : i = nI k) (hk : k < 12) (kk : E X d FM_keep 42 L st (pI h 93 k v) Q) : E X d FM_keep 41 L (.int v :: .int i :: .ref 93 :: st) h Q := by
  subst e
  exact FM_keep_41  (vp_in_nI hk (by omega)) (by rw [nI_clamp (show k < 2 ^ 31 by omega)]; exact kk)
theorem FM_keep_57n {X : SX} {d : Nat} {L : List Value} {st : List Value} {h : HH} {Q : Int32 → HH → Prop} {i : Int32}  {k : Nat} (e : i = nI k) (hk : k < 6) (kk : E X d FM_keep 58 L (.int (h.1 62 k) :: st) h Q) : E X d FM_keep 57 L (.int i :: .ref 62 :: st) h Q := by
  subst e
  exact FM_keep_57  (vp_in_nI hk (by omega)) (by rw [nI_clamp (show k < 2 ^ 31 by omega)]; exact kk)
theorem FM_keep_58n {X : SX} {d : Nat} {L : List Value} {st : List Value} {h : HH} {Q : Int32 → HH → Prop} {i : Int32} {v : Int32}  {k : Nat} (e : i = nI k) (hk : k < 12) (kk : E X d FM_keep 59 L st (pI h 96 k v) Q) : E X d FM_keep 58 L (.int v :: .int i :: .ref 96 :: st) h Q := by
  subst e
  exact FM_keep_58  (vp_in_nI hk (by omega)) (by rw [nI_clamp (show k < 2 ^ 31 by omega)]; exact kk)
theorem FM_keep_88n {X : SX} {d : Nat} {L : List Value} {st : List Value} {h : HH} {Q : Int32 → HH → Prop} {i : Int32}  {k : Nat} (e : i = nI k) (hk : k < 18) (kk : E X d FM_keep 89 L (.int (h.1 60 k) :: st) h Q) : E X d FM_keep 88 L (.int i :: .ref 60 :: st) h Q := by
  subst e
  exact FM_keep_88  (vp_in_nI hk (by omega)) (by rw [nI_clamp (show k < 2 ^ 31 by omega)]; exact kk)
theorem FM_keep_89n {X : SX} {d : Nat} {L : List Value} {st : List Value} {h : HH} {Q : Int32 → HH → Prop} {i : Int32} {v : Int32}  {k : Nat} (e : i = nI k) (hk : k < 36) (kk : E X d FM_keep 90 L st (pI h 94 k v) Q) : E X d FM_keep 89 L (.int v :: .int i :: .ref 94 :: st) h Q := by
  subst e
  exact FM_keep_89  (vp_in_nI hk (by omega)) (by rw [nI_clamp (show k < 2 ^ 31 by omega)]; exact kk)
theorem FM_keep_105n {X : SX} {d : Nat} {L : List Value} {st : List Value} {h : HH} {Q : Int32 → HH → Prop} {i : Int32}  {k : Nat} (e : i = nI k) (hk : k < 18) (kk : E X d FM_keep 106 L (.int (h.1 61 k) :: st) h Q) : E X d FM_keep 105 L (.int i :: .ref 61 :: st) h Q := by
  subst e
  exact FM_keep_105  (vp_in_nI hk (by omega)) (by rw [nI_clamp (show k < 2 ^ 31 by omega)]; exact kk)
theorem FM_keep_106n {X : SX} {d : Nat} {L : List Value} {st : List Value} {h : HH} {Q : Int32 → HH → Prop} {i : Int32} {v : Int32}  {k : Nat} (e : i = nI k) (hk : k < 36) (kk : E X d FM_keep 107 L st (pI h 95 k v) Q) : E X d FM_keep 106 L (.int v :: .int i :: .ref 95 :: st) h Q := by
  subst e
  exact FM_keep_106  (vp_in_nI hk (by omega)) (by rw [nI_clamp (show k < 2 ^ 31 by omega)]; exact kk)
theorem FM_keep_122n {X : SX} {d : Nat} {L : List Value} {st : List Value} {h : HH} {Q : Int32 → HH → Prop} {i : Int32}  {k : Nat} (e : i = nI k) (hk : k < 18) (kk : E X d FM_keep 123 L (.int (h.1 63 k) :: st) h Q) : E X d FM_keep 122 L (.int i :: .ref 63 :: st) h Q := by
  subst e
  exact FM_keep_122  (vp_in_nI hk (by omega)) (by rw [nI_clamp (show k < 2 ^ 31 by omega)]; exact kk)
theorem FM_keep_123n {X : SX} {d : Nat} {L : List Value} {st : List Value} {h : HH} {Q : Int32 → HH → Prop} {i : Int32} {v : Int32}  {k : Nat} (e : i = nI k) (hk : k < 36) (kk : E X d FM_keep 124 L st (pI h 97 k v) Q) : E X d FM_keep 123 L (.int v :: .int i :: .ref 97 :: st) h Q := by
  subst e
  exact FM_keep_123  (vp_in_nI hk (by omega)) (by rw [nI_clamp (show k < 2 ^ 31 by omega)]; exact kk)
theorem FM_keep_139n {X : SX} {d : Nat} {L : List Value} {st : List Value} {h : HH} {Q : Int32 → HH → Prop} {i : Int32}  {k : Nat} (e : i = nI k) (hk : k < 18) (kk : E X d FM_keep 140 L (.int (h.1 64 k) :: st) h Q) : E X d FM_keep 139 L (.int i :: .ref 64 :: st) h Q := by
  subst e
  exact FM_keep_139  (vp_in_nI hk (by omega)) (by rw [nI_clamp (show k < 2 ^ 31 by omega)]; exact kk)
theorem FM_keep_140n {X : SX} {d : Nat} {L : List Value} {st : List Value} {h : HH} {Q : Int32 → HH → Prop} {i : Int32} {v : Int32}  {k : Nat} (e : i = nI k) (hk : k < 36) (kk : E X d FM_keep 141 L st (pI h 98 k v) Q) : E X d FM_keep 140 L (.int v :: .int i :: .ref 98 :: st) h Q := by
  subst e
  exact FM_keep_140  (vp_in_nI hk (by omega)) (by rw [nI_clamp (show k < 2 ^ 31 by omega)]; exact kk)
theorem FM_keep_158n {X : SX} {d : Nat} {L : List Value} {st : List Value} {h : HH} {Q : Int32 → HH → Prop} {i : Int32} {v : Int32}  {k : Nat} (e : i = nI k) (hk : k < 6) (kk : E X d FM_keep 159 L st (pI h 99 k v) Q) : E X d FM_keep 158 L (.int v :: .int i :: .ref 99 :: st) h Q := by
  subst e
  exact FM_keep_158  (vp_in_nI hk (by omega)) (by rw [nI_clamp (show k < 2 ^ 31 by omega)]; exact kk)
theorem FM_keep_172n {X : SX} {d : Nat} {L : List Value} {st : List Value} {h : HH} {Q : Int32 → HH → Prop} {i : Int32} {v : Int32}  {k : Nat} (e : i = nI k) (hk : k < 6) (kk : E X d FM_keep 173 L st (pI h 99 k v) Q) : E X d FM_keep 172 L (.int v :: .int i :: .ref 99 :: st) h Q := by
  subst e
  exact FM_keep_172  (vp_in_nI hk (by omega)) (by rw [nI_clamp (show k < 2 ^ 31 by omega)]; exact kk)
theorem FM_keep_186n {X : SX} {d : Nat} {L : List Value} {st : List Value} {h : HH} {Q : Int32 → HH → Prop} {i : Int32} {v : Int32}  {k : Nat} (e : i = nI k) (hk : k < 6) (kk : E X d FM_keep 187 L st (pI h 99 k v) Q) : E X d FM_keep 186 L (.int v :: .int i :: .ref 99 :: st) h Q := by
  subst e
  exact FM_keep_186  (vp_in_nI hk (by omega)) (by rw [nI_clamp (show k < 2 ^ 31 by omega)]; exact kk)
theorem FM_allDead_20n {X : SX} {d : Nat} {L : List Value} {st : List Value} {h : HH} {Q : Int32 → HH → Prop} {i : Int32}  {k : Nat} (e : i = nI k) (hk : k < 18) (kk : E X d FM_allDead 21 L (.int (h.1 64 k) :: st) h Q) : E X d FM_allDead 20 L (.int i :: .ref 64 :: st) h Q := by
  subst e
  exact FM_allDead_20  (vp_in_nI hk (by omega)) (by rw [nI_clamp (show k < 2 ^ 31 by omega)]; exact kk)
theorem FM_lay_23n {X : SX} {d : Nat} {L : List Value} {st : List Value} {h : HH} {Q : Int32 → HH → Prop} {i : Int32}  {k : Nat} (e : i = nI k) (hk : k < 12) (kk : E X d FM_lay 24 L (.int (h.1 92 k) :: st) h Q) : E X d FM_lay 23 L (.int i :: .ref 92 :: st) h Q := by
  subst e
  exact FM_lay_23  (vp_in_nI hk (by omega)) (by rw [nI_clamp (show k < 2 ^ 31 by omega)]; exact kk)
theorem FM_lay_24n {X : SX} {d : Nat} {L : List Value} {st : List Value} {h : HH} {Q : Int32 → HH → Prop} {i : Int32} {v : Int32}  {k : Nat} (e : i = nI k) (hk : k < 6) (kk : E X d FM_lay 25 L st (pI h 58 k v) Q) : E X d FM_lay 24 L (.int v :: .int i :: .ref 58 :: st) h Q := by
  subst e
  exact FM_lay_24  (vp_in_nI hk (by omega)) (by rw [nI_clamp (show k < 2 ^ 31 by omega)]; exact kk)
theorem FM_lay_40n {X : SX} {d : Nat} {L : List Value} {st : List Value} {h : HH} {Q : Int32 → HH → Prop} {i : Int32}  {k : Nat} (e : i = nI k) (hk : k < 12) (kk : E X d FM_lay 41 L (.int (h.1 93 k) :: st) h Q) : E X d FM_lay 40 L (.int i :: .ref 93 :: st) h Q := by
  subst e
  exact FM_lay_40  (vp_in_nI hk (by omega)) (by rw [nI_clamp (show k < 2 ^ 31 by omega)]; exact kk)
theorem FM_lay_41n {X : SX} {d : Nat} {L : List Value} {st : List Value} {h : HH} {Q : Int32 → HH → Prop} {i : Int32} {v : Int32}  {k : Nat} (e : i = nI k) (hk : k < 6) (kk : E X d FM_lay 42 L st (pI h 59 k v) Q) : E X d FM_lay 41 L (.int v :: .int i :: .ref 59 :: st) h Q := by
  subst e
  exact FM_lay_41  (vp_in_nI hk (by omega)) (by rw [nI_clamp (show k < 2 ^ 31 by omega)]; exact kk)
theorem FM_lay_57n {X : SX} {d : Nat} {L : List Value} {st : List Value} {h : HH} {Q : Int32 → HH → Prop} {i : Int32}  {k : Nat} (e : i = nI k) (hk : k < 12) (kk : E X d FM_lay 58 L (.int (h.1 96 k) :: st) h Q) : E X d FM_lay 57 L (.int i :: .ref 96 :: st) h Q := by
  subst e
  exact FM_lay_57  (vp_in_nI hk (by omega)) (by rw [nI_clamp (show k < 2 ^ 31 by omega)]; exact kk)
theorem FM_lay_58n {X : SX} {d : Nat} {L : List Value} {st : List Value} {h : HH} {Q : Int32 → HH → Prop} {i : Int32} {v : Int32}  {k : Nat} (e : i = nI k) (hk : k < 6) (kk : E X d FM_lay 59 L st (pI h 62 k v) Q) : E X d FM_lay 58 L (.int v :: .int i :: .ref 62 :: st) h Q := by
  subst e
  exact FM_lay_58  (vp_in_nI hk (by omega)) (by rw [nI_clamp (show k < 2 ^ 31 by omega)]; exact kk)
theorem FM_lay_88n {X : SX} {d : Nat} {L : List Value} {st : List Value} {h : HH} {Q : Int32 → HH → Prop} {i : Int32}  {k : Nat} (e : i = nI k) (hk : k < 36) (kk : E X d FM_lay 89 L (.int (h.1 94 k) :: st) h Q) : E X d FM_lay 88 L (.int i :: .ref 94 :: st) h Q := by
  subst e
  exact FM_lay_88  (vp_in_nI hk (by omega)) (by rw [nI_clamp (show k < 2 ^ 31 by omega)]; exact kk)
theorem FM_lay_89n {X : SX} {d : Nat} {L : List Value} {st : List Value} {h : HH} {Q : Int32 → HH → Prop} {i : Int32} {v : Int32}  {k : Nat} (e : i = nI k) (hk : k < 18) (kk : E X d FM_lay 90 L st (pI h 60 k v) Q) : E X d FM_lay 89 L (.int v :: .int i :: .ref 60 :: st) h Q := by
  subst e
  exact FM_lay_89  (vp_in_nI hk (by omega)) (by rw [nI_clamp (show k < 2 ^ 31 by omega)]; exact kk)
theorem FM_lay_105n {X : SX} {d : Nat} {L : List Value} {st : List Value} {h : HH} {Q : Int32 → HH → Prop} {i : Int32}  {k : Nat} (e : i = nI k) (hk : k < 36) (kk : E X d FM_lay 106 L (.int (h.1 95 k) :: st) h Q) : E X d FM_lay 105 L (.int i :: .ref 95 :: st) h Q := by
  subst e
  exact FM_lay_105  (vp_in_nI hk (by omega)) (by rw [nI_clamp (show k < 2 ^ 31 by omega)]; exact kk)
theorem FM_lay_106n {X : SX} {d : Nat} {L : List Value} {st : List Value} {h : HH} {Q : Int32 → HH → Prop} {i : Int32} {v : Int32}  {k : Nat} (e : i = nI k) (hk : k < 18) (kk : E X d FM_lay 107 L st (pI h 61 k v) Q) : E X d FM_lay 106 L (.int v :: .int i :: .ref 61 :: st) h Q := by
  subst e
  exact FM_lay_106  (vp_in_nI hk (by omega)) (by rw [nI_clamp (show k < 2 ^ 31 by omega)]; exact kk)
theorem FM_lay_122n {X : SX} {d : Nat} {L : List Value} {st : List Value} {h : HH} {Q : Int32 → HH → Prop} {i : Int32}  {k : Nat} (e : i = nI k) (hk : k < 36) (kk : E X d FM_lay 123 L (.int (h.1 97 k) :: st) h Q) : E X d FM_lay 122 L (.int i :: .ref 97 :: st) h Q := by
  subst e
  exact FM_lay_122  (vp_in_nI hk (by omega)) (by rw [nI_clamp (show k < 2 ^ 31 by omega)]; exact kk)
theorem FM_lay_123n {X : SX} {d : Nat} {L : List Value} {st : List Value} {h : HH} {Q : Int32 → HH → Prop} {i : Int32} {v : Int32}  {k : Nat} (e : i = nI k) (hk : k < 18) (kk : E X d FM_lay 124 L st (pI h 63 k v) Q) : E X d FM_lay 123 L (.int v :: .int i :: .ref 63 :: st) h Q := by
  subst e
  exact FM_lay_123  (vp_in_nI hk (by omega)) (by rw [nI_clamp (show k < 2 ^ 31 by omega)]; exact kk)
theorem FM_lay_139n {X : SX} {d : Nat} {L : List Value} {st : List Value} {h : HH} {Q : Int32 → HH → Prop} {i : Int32}  {k : Nat} (e : i = nI k) (hk : k < 36) (kk : E X d FM_lay 140 L (.int (h.1 98 k) :: st) h Q) : E X d FM_lay 139 L (.int i :: .ref 98 :: st) h Q := by
  subst e
  exact FM_lay_139  (vp_in_nI hk (by omega)) (by rw [nI_clamp (show k < 2 ^ 31 by omega)]; exact kk)
theorem FM_lay_140n {X : SX} {d : Nat} {L : List Value} {st : List Value} {h : HH} {Q : Int32 → HH → Prop} {i : Int32} {v : Int32}  {k : Nat} (e : i = nI k) (hk : k < 18) (kk : E X d FM_lay 141 L st (pI h 64 k v) Q) : E X d FM_lay 140 L (.int v :: .int i :: .ref 64 :: st) h Q := by
  subst e
  exact FM_lay_140  (vp_in_nI hk (by omega)) (by rw [nI_clamp (show k < 2 ^ 31 by omega)]; exact kk)
theorem FM_lay_155n {X : SX} {d : Nat} {L : List Value} {st : List Value} {h : HH} {Q : Int32 → HH → Prop} {i : Int32}  {k : Nat} (e : i = nI k) (hk : k < 6) (kk : E X d FM_lay 156 L (.int (h.1 99 k) :: st) h Q) : E X d FM_lay 155 L (.int i :: .ref 99 :: st) h Q := by
  subst e
  exact FM_lay_155  (vp_in_nI hk (by omega)) (by rw [nI_clamp (show k < 2 ^ 31 by omega)]; exact kk)
theorem FM_lay_169n {X : SX} {d : Nat} {L : List Value} {st : List Value} {h : HH} {Q : Int32 → HH → Prop} {i : Int32}  {k : Nat} (e : i = nI k) (hk : k < 6) (kk : E X d FM_lay 170 L (.int (h.1 99 k) :: st) h Q) : E X d FM_lay 169 L (.int i :: .ref 99 :: st) h Q := by
  subst e
  exact FM_lay_169  (vp_in_nI hk (by omega)) (by rw [nI_clamp (show k < 2 ^ 31 by omega)]; exact kk)
theorem FM_lay_183n {X : SX} {d : Nat} {L : List Value} {st : List Value} {h : HH} {Q : Int32 → HH → Prop} {i : Int32}  {k : Nat} (e : i = nI k) (hk : k < 6) (kk : E X d FM_lay 184 L (.int (h.1 99 k) :: st) h Q) : E X d FM_lay 183 L (.int i :: .ref 99 :: st) h Q := by
  subst e
  exact FM_lay_183  (vp_in_nI hk (by omega)) (by rw [nI_clamp (show k < 2 ^ 31 by omega)]; exact kk)
theorem FM_image_14n {X : SX} {d : Nat} {L : List Value} {st : List Value} {h : HH} {Q : Int32 → HH → Prop} {i : Int32} {v : Int32}  {k : Nat} (e : i = nI k) (hk : k < 7) (kk : E X d FM_image 15 L st (pI h 100 k v) Q) : E X d FM_image 14 L (.int v :: .int i :: .ref 100 :: st) h Q := by
  subst e
  exact FM_image_14  (vp_in_nI hk (by omega)) (by rw [nI_clamp (show k < 2 ^ 31 by omega)]; exact kk)
theorem FM_image_24n {X : SX} {d : Nat} {L : List Value} {st : List Value} {h : HH} {Q : Int32 → HH → Prop} {i : Int32} {v : Int32}  {k : Nat} (e : i = nI k) (hk : k < 7) (kk : E X d FM_image 25 L st (pI h 100 k v) Q) : E X d FM_image 24 L (.int v :: .int i :: .ref 100 :: st) h Q := by
  subst e
  exact FM_image_24  (vp_in_nI hk (by omega)) (by rw [nI_clamp (show k < 2 ^ 31 by omega)]; exact kk)
theorem FM_image_34n {X : SX} {d : Nat} {L : List Value} {st : List Value} {h : HH} {Q : Int32 → HH → Prop} {i : Int32} {v : Int32}  {k : Nat} (e : i = nI k) (hk : k < 7) (kk : E X d FM_image 35 L st (pI h 100 k v) Q) : E X d FM_image 34 L (.int v :: .int i :: .ref 100 :: st) h Q := by
  subst e
  exact FM_image_34  (vp_in_nI hk (by omega)) (by rw [nI_clamp (show k < 2 ^ 31 by omega)]; exact kk)
theorem FM_image_44n {X : SX} {d : Nat} {L : List Value} {st : List Value} {h : HH} {Q : Int32 → HH → Prop} {i : Int32} {v : Int32}  {k : Nat} (e : i = nI k) (hk : k < 7) (kk : E X d FM_image 45 L st (pI h 100 k v) Q) : E X d FM_image 44 L (.int v :: .int i :: .ref 100 :: st) h Q := by
  subst e
  exact FM_image_44  (vp_in_nI hk (by omega)) (by rw [nI_clamp (show k < 2 ^ 31 by omega)]; exact kk)
theorem FM_image_54n {X : SX} {d : Nat} {L : List Value} {st : List Value} {h : HH} {Q : Int32 → HH → Prop} {i : Int32} {v : Int32}  {k : Nat} (e : i = nI k) (hk : k < 7) (kk : E X d FM_image 55 L st (pI h 100 k v) Q) : E X d FM_image 54 L (.int v :: .int i :: .ref 100 :: st) h Q := by
  subst e
  exact FM_image_54  (vp_in_nI hk (by omega)) (by rw [nI_clamp (show k < 2 ^ 31 by omega)]; exact kk)
theorem FM_image_64n {X : SX} {d : Nat} {L : List Value} {st : List Value} {h : HH} {Q : Int32 → HH → Prop} {i : Int32} {v : Int32}  {k : Nat} (e : i = nI k) (hk : k < 7) (kk : E X d FM_image 65 L st (pI h 100 k v) Q) : E X d FM_image 64 L (.int v :: .int i :: .ref 100 :: st) h Q := by
  subst e
  exact FM_image_64  (vp_in_nI hk (by omega)) (by rw [nI_clamp (show k < 2 ^ 31 by omega)]; exact kk)
theorem FM_image_75n {X : SX} {d : Nat} {L : List Value} {st : List Value} {h : HH} {Q : Int32 → HH → Prop} {i : Int32} {v : Int32}  {k : Nat} (e : i = nI k) (hk : k < 7) (kk : E X d FM_image 76 L st (pI h 100 k v) Q) : E X d FM_image 75 L (.int v :: .int i :: .ref 100 :: st) h Q := by
  subst e
  exact FM_image_75  (vp_in_nI hk (by omega)) (by rw [nI_clamp (show k < 2 ^ 31 by omega)]; exact kk)
theorem FM_image_94n {X : SX} {d : Nat} {L : List Value} {st : List Value} {h : HH} {Q : Int32 → HH → Prop} {i : Int32}  {k : Nat} (e : i = nI k) (hk : k < 12) (kk : E X d FM_image 95 L (.int (h.1 79 k) :: st) h Q) : E X d FM_image 94 L (.int i :: .ref 79 :: st) h Q := by
  subst e
  exact FM_image_94  (vp_in_nI hk (by omega)) (by rw [nI_clamp (show k < 2 ^ 31 by omega)]; exact kk)
theorem FM_image_95n {X : SX} {d : Nat} {L : List Value} {st : List Value} {h : HH} {Q : Int32 → HH → Prop} {i : Int32} {v : Int32}  {k : Nat} (e : i = nI k) (hk : k < 12) (kk : E X d FM_image 96 L st (pI h 101 k v) Q) : E X d FM_image 95 L (.int v :: .int i :: .ref 101 :: st) h Q := by
  subst e
  exact FM_image_95  (vp_in_nI hk (by omega)) (by rw [nI_clamp (show k < 2 ^ 31 by omega)]; exact kk)
theorem FM_image_121n {X : SX} {d : Nat} {L : List Value} {st : List Value} {h : HH} {Q : Int32 → HH → Prop} {i : Int32}  {k : Nat} (e : i = nI k) (hk : k < 360) (kk : E X d FM_image 122 L (.int (h.1 65 k) :: st) h Q) : E X d FM_image 121 L (.int i :: .ref 65 :: st) h Q := by
  subst e
  exact FM_image_121  (vp_in_nI hk (by omega)) (by rw [nI_clamp (show k < 2 ^ 31 by omega)]; exact kk)
theorem FM_image_122n {X : SX} {d : Nat} {L : List Value} {st : List Value} {h : HH} {Q : Int32 → HH → Prop} {i : Int32} {v : Int32}  {k : Nat} (e : i = nI k) (hk : k < 360) (kk : E X d FM_image 123 L st (pI h 102 k v) Q) : E X d FM_image 122 L (.int v :: .int i :: .ref 102 :: st) h Q := by
  subst e
  exact FM_image_122  (vp_in_nI hk (by omega)) (by rw [nI_clamp (show k < 2 ^ 31 by omega)]; exact kk)
theorem FM_back_49n {X : SX} {d : Nat} {L : List Value} {st : List Value} {h : HH} {Q : Int32 → HH → Prop} {i : Int32}  {k : Nat} (e : i = nI k) (hk : k < 7) (kk : E X d FM_back 50 L (.int (h.1 100 k) :: st) h Q) : E X d FM_back 49 L (.int i :: .ref 100 :: st) h Q := by
  subst e
  exact FM_back_49  (vp_in_nI hk (by omega)) (by rw [nI_clamp (show k < 2 ^ 31 by omega)]; exact kk)
theorem FM_back_59n {X : SX} {d : Nat} {L : List Value} {st : List Value} {h : HH} {Q : Int32 → HH → Prop} {i : Int32}  {k : Nat} (e : i = nI k) (hk : k < 7) (kk : E X d FM_back 60 L (.int (h.1 100 k) :: st) h Q) : E X d FM_back 59 L (.int i :: .ref 100 :: st) h Q := by
  subst e
  exact FM_back_59  (vp_in_nI hk (by omega)) (by rw [nI_clamp (show k < 2 ^ 31 by omega)]; exact kk)
theorem FM_back_69n {X : SX} {d : Nat} {L : List Value} {st : List Value} {h : HH} {Q : Int32 → HH → Prop} {i : Int32}  {k : Nat} (e : i = nI k) (hk : k < 7) (kk : E X d FM_back 70 L (.int (h.1 100 k) :: st) h Q) : E X d FM_back 69 L (.int i :: .ref 100 :: st) h Q := by
  subst e
  exact FM_back_69  (vp_in_nI hk (by omega)) (by rw [nI_clamp (show k < 2 ^ 31 by omega)]; exact kk)
theorem FM_back_79n {X : SX} {d : Nat} {L : List Value} {st : List Value} {h : HH} {Q : Int32 → HH → Prop} {i : Int32}  {k : Nat} (e : i = nI k) (hk : k < 7) (kk : E X d FM_back 80 L (.int (h.1 100 k) :: st) h Q) : E X d FM_back 79 L (.int i :: .ref 100 :: st) h Q := by
  subst e
  exact FM_back_79  (vp_in_nI hk (by omega)) (by rw [nI_clamp (show k < 2 ^ 31 by omega)]; exact kk)
theorem FM_back_89n {X : SX} {d : Nat} {L : List Value} {st : List Value} {h : HH} {Q : Int32 → HH → Prop} {i : Int32}  {k : Nat} (e : i = nI k) (hk : k < 7) (kk : E X d FM_back 90 L (.int (h.1 100 k) :: st) h Q) : E X d FM_back 89 L (.int i :: .ref 100 :: st) h Q := by
  subst e
  exact FM_back_89  (vp_in_nI hk (by omega)) (by rw [nI_clamp (show k < 2 ^ 31 by omega)]; exact kk)
theorem FM_back_99n {X : SX} {d : Nat} {L : List Value} {st : List Value} {h : HH} {Q : Int32 → HH → Prop} {i : Int32}  {k : Nat} (e : i = nI k) (hk : k < 7) (kk : E X d FM_back 100 L (.int (h.1 100 k) :: st) h Q) : E X d FM_back 99 L (.int i :: .ref 100 :: st) h Q := by
  subst e
  exact FM_back_99  (vp_in_nI hk (by omega)) (by rw [nI_clamp (show k < 2 ^ 31 by omega)]; exact kk)
theorem FM_back_110n {X : SX} {d : Nat} {L : List Value} {st : List Value} {h : HH} {Q : Int32 → HH → Prop} {i : Int32}  {k : Nat} (e : i = nI k) (hk : k < 7) (kk : E X d FM_back 111 L (.int (h.1 100 k) :: st) h Q) : E X d FM_back 110 L (.int i :: .ref 100 :: st) h Q := by
  subst e
  exact FM_back_110  (vp_in_nI hk (by omega)) (by rw [nI_clamp (show k < 2 ^ 31 by omega)]; exact kk)
theorem FM_back_132n {X : SX} {d : Nat} {L : List Value} {st : List Value} {h : HH} {Q : Int32 → HH → Prop} {i : Int32}  {k : Nat} (e : i = nI k) (hk : k < 12) (kk : E X d FM_back 133 L (.int (h.1 101 k) :: st) h Q) : E X d FM_back 132 L (.int i :: .ref 101 :: st) h Q := by
  subst e
  exact FM_back_132  (vp_in_nI hk (by omega)) (by rw [nI_clamp (show k < 2 ^ 31 by omega)]; exact kk)
theorem FM_back_133n {X : SX} {d : Nat} {L : List Value} {st : List Value} {h : HH} {Q : Int32 → HH → Prop} {i : Int32} {v : Int32}  {k : Nat} (e : i = nI k) (hk : k < 12) (kk : E X d FM_back 134 L st (pI h 79 k v) Q) : E X d FM_back 133 L (.int v :: .int i :: .ref 79 :: st) h Q := by
  subst e
  exact FM_back_133  (vp_in_nI hk (by omega)) (by rw [nI_clamp (show k < 2 ^ 31 by omega)]; exact kk)
theorem FM_back_159n {X : SX} {d : Nat} {L : List Value} {st : List Value} {h : HH} {Q : Int32 → HH → Prop} {i : Int32}  {k : Nat} (e : i = nI k) (hk : k < 360) (kk : E X d FM_back 160 L (.int (h.1 102 k) :: st) h Q) : E X d FM_back 159 L (.int i :: .ref 102 :: st) h Q := by
  subst e
  exact FM_back_159  (vp_in_nI hk (by omega)) (by rw [nI_clamp (show k < 2 ^ 31 by omega)]; exact kk)
theorem FM_back_160n {X : SX} {d : Nat} {L : List Value} {st : List Value} {h : HH} {Q : Int32 → HH → Prop} {i : Int32} {v : Int32}  {k : Nat} (e : i = nI k) (hk : k < 360) (kk : E X d FM_back 161 L st (pI h 65 k v) Q) : E X d FM_back 160 L (.int v :: .int i :: .ref 65 :: st) h Q := by
  subst e
  exact FM_back_160  (vp_in_nI hk (by omega)) (by rw [nI_clamp (show k < 2 ^ 31 by omega)]; exact kk)
theorem FM_told_34n {X : SX} {d : Nat} {L : List Value} {st : List Value} {h : HH} {Q : Int32 → HH → Prop} {i : Int32}  {k : Nat} (e : i = nI k) (hk : k < 6) (kk : E X d FM_told 35 L (.int (h.1 58 k) :: st) h Q) : E X d FM_told 34 L (.int i :: .ref 58 :: st) h Q := by
  subst e
  exact FM_told_34  (vp_in_nI hk (by omega)) (by rw [nI_clamp (show k < 2 ^ 31 by omega)]; exact kk)
theorem FM_told_43n {X : SX} {d : Nat} {L : List Value} {st : List Value} {h : HH} {Q : Int32 → HH → Prop} {i : Int32}  {k : Nat} (e : i = nI k) (hk : k < 6) (kk : E X d FM_told 44 L (.int (h.1 59 k) :: st) h Q) : E X d FM_told 43 L (.int i :: .ref 59 :: st) h Q := by
  subst e
  exact FM_told_43  (vp_in_nI hk (by omega)) (by rw [nI_clamp (show k < 2 ^ 31 by omega)]; exact kk)
theorem FM_told_56n {X : SX} {d : Nat} {L : List Value} {st : List Value} {h : HH} {Q : Int32 → HH → Prop} {i : Int32}  {k : Nat} (e : i = nI k) (hk : k < 6) (kk : E X d FM_told 57 L (.int (h.1 62 k) :: st) h Q) : E X d FM_told 56 L (.int i :: .ref 62 :: st) h Q := by
  subst e
  exact FM_told_56  (vp_in_nI hk (by omega)) (by rw [nI_clamp (show k < 2 ^ 31 by omega)]; exact kk)
theorem FM_told_74n {X : SX} {d : Nat} {L : List Value} {st : List Value} {h : HH} {Q : Int32 → HH → Prop} {i : Int32}  {k : Nat} (e : i = nI k) (hk : k < 18) (kk : E X d FM_told 75 L (.int (h.1 60 k) :: st) h Q) : E X d FM_told 74 L (.int i :: .ref 60 :: st) h Q := by
  subst e
  exact FM_told_74  (vp_in_nI hk (by omega)) (by rw [nI_clamp (show k < 2 ^ 31 by omega)]; exact kk)
theorem FM_told_95n {X : SX} {d : Nat} {L : List Value} {st : List Value} {h : HH} {Q : Int32 → HH → Prop} {i : Int32}  {k : Nat} (e : i = nI k) (hk : k < 18) (kk : E X d FM_told 96 L (.int (h.1 61 k) :: st) h Q) : E X d FM_told 95 L (.int i :: .ref 61 :: st) h Q := by
  subst e
  exact FM_told_95  (vp_in_nI hk (by omega)) (by rw [nI_clamp (show k < 2 ^ 31 by omega)]; exact kk)
theorem FM_told_117n {X : SX} {d : Nat} {L : List Value} {st : List Value} {h : HH} {Q : Int32 → HH → Prop} {i : Int32}  {k : Nat} (e : i = nI k) (hk : k < 18) (kk : E X d FM_told 118 L (.int (h.1 63 k) :: st) h Q) : E X d FM_told 117 L (.int i :: .ref 63 :: st) h Q := by
  subst e
  exact FM_told_117  (vp_in_nI hk (by omega)) (by rw [nI_clamp (show k < 2 ^ 31 by omega)]; exact kk)
theorem FM_told_133n {X : SX} {d : Nat} {L : List Value} {st : List Value} {h : HH} {Q : Int32 → HH → Prop} {i : Int32}  {k : Nat} (e : i = nI k) (hk : k < 18) (kk : E X d FM_told 134 L (.int (h.1 64 k) :: st) h Q) : E X d FM_told 133 L (.int i :: .ref 64 :: st) h Q := by
  subst e
  exact FM_told_133  (vp_in_nI hk (by omega)) (by rw [nI_clamp (show k < 2 ^ 31 by omega)]; exact kk)
theorem FM_lineTold_69n {X : SX} {d : Nat} {L : List Value} {st : List Value} {h : HH} {Q : Int32 → HH → Prop} {i : Int32}  {k : Nat} (e : i = nI k) (hk : k < 12) (kk : E X d FM_lineTold 70 L (.int (h.1 71 k) :: st) h Q) : E X d FM_lineTold 69 L (.int i :: .ref 71 :: st) h Q := by
  subst e
  exact FM_lineTold_69  (vp_in_nI hk (by omega)) (by rw [nI_clamp (show k < 2 ^ 31 by omega)]; exact kk)
theorem FM_lineTold_76n {X : SX} {d : Nat} {L : List Value} {st : List Value} {h : HH} {Q : Int32 → HH → Prop} {i : Int32}  {k : Nat} (e : i = nI k) (hk : k < 12) (kk : E X d FM_lineTold 77 L (.int (h.1 72 k) :: st) h Q) : E X d FM_lineTold 76 L (.int i :: .ref 72 :: st) h Q := by
  subst e
  exact FM_lineTold_76  (vp_in_nI hk (by omega)) (by rw [nI_clamp (show k < 2 ^ 31 by omega)]; exact kk)
theorem FM_lineTold_83n {X : SX} {d : Nat} {L : List Value} {st : List Value} {h : HH} {Q : Int32 → HH → Prop} {i : Int32}  {k : Nat} (e : i = nI k) (hk : k < 12) (kk : E X d FM_lineTold 84 L (.int (h.1 73 k) :: st) h Q) : E X d FM_lineTold 83 L (.int i :: .ref 73 :: st) h Q := by
  subst e
  exact FM_lineTold_83  (vp_in_nI hk (by omega)) (by rw [nI_clamp (show k < 2 ^ 31 by omega)]; exact kk)
theorem FM_lineTold_90n {X : SX} {d : Nat} {L : List Value} {st : List Value} {h : HH} {Q : Int32 → HH → Prop} {i : Int32}  {k : Nat} (e : i = nI k) (hk : k < 12) (kk : E X d FM_lineTold 91 L (.int (h.1 74 k) :: st) h Q) : E X d FM_lineTold 90 L (.int i :: .ref 74 :: st) h Q := by
  subst e
  exact FM_lineTold_90  (vp_in_nI hk (by omega)) (by rw [nI_clamp (show k < 2 ^ 31 by omega)]; exact kk)
theorem FM_lineTold_97n {X : SX} {d : Nat} {L : List Value} {st : List Value} {h : HH} {Q : Int32 → HH → Prop} {i : Int32}  {k : Nat} (e : i = nI k) (hk : k < 12) (kk : E X d FM_lineTold 98 L (.int (h.1 75 k) :: st) h Q) : E X d FM_lineTold 97 L (.int i :: .ref 75 :: st) h Q := by
  subst e
  exact FM_lineTold_97  (vp_in_nI hk (by omega)) (by rw [nI_clamp (show k < 2 ^ 31 by omega)]; exact kk)
theorem FM_lineTold_104n {X : SX} {d : Nat} {L : List Value} {st : List Value} {h : HH} {Q : Int32 → HH → Prop} {i : Int32}  {k : Nat} (e : i = nI k) (hk : k < 12) (kk : E X d FM_lineTold 105 L (.int (h.1 76 k) :: st) h Q) : E X d FM_lineTold 104 L (.int i :: .ref 76 :: st) h Q := by
  subst e
  exact FM_lineTold_104  (vp_in_nI hk (by omega)) (by rw [nI_clamp (show k < 2 ^ 31 by omega)]; exact kk)
theorem FM_lineTold_119n {X : SX} {d : Nat} {L : List Value} {st : List Value} {h : HH} {Q : Int32 → HH → Prop} {i : Int32}  {k : Nat} (e : i = nI k) (hk : k < 12) (kk : E X d FM_lineTold 120 L (.int (h.1 77 k) :: st) h Q) : E X d FM_lineTold 119 L (.int i :: .ref 77 :: st) h Q := by
  subst e
  exact FM_lineTold_119  (vp_in_nI hk (by omega)) (by rw [nI_clamp (show k < 2 ^ 31 by omega)]; exact kk)
theorem FM_lineTold_126n {X : SX} {d : Nat} {L : List Value} {st : List Value} {h : HH} {Q : Int32 → HH → Prop} {i : Int32}  {k : Nat} (e : i = nI k) (hk : k < 12) (kk : E X d FM_lineTold 127 L (.int (h.1 78 k) :: st) h Q) : E X d FM_lineTold 126 L (.int i :: .ref 78 :: st) h Q := by
  subst e
  exact FM_lineTold_126  (vp_in_nI hk (by omega)) (by rw [nI_clamp (show k < 2 ^ 31 by omega)]; exact kk)
theorem FM_lineTold_133n {X : SX} {d : Nat} {L : List Value} {st : List Value} {h : HH} {Q : Int32 → HH → Prop} {i : Int32}  {k : Nat} (e : i = nI k) (hk : k < 12) (kk : E X d FM_lineTold 134 L (.int (h.1 79 k) :: st) h Q) : E X d FM_lineTold 133 L (.int i :: .ref 79 :: st) h Q := by
  subst e
  exact FM_lineTold_133  (vp_in_nI hk (by omega)) (by rw [nI_clamp (show k < 2 ^ 31 by omega)]; exact kk)
theorem FM_openOf_5n {X : SX} {d : Nat} {L : List Value} {st : List Value} {h : HH} {Q : Int32 → HH → Prop} {i : Int32}  {k : Nat} (e : i = nI k) (hk : k < 12) (kk : E X d FM_openOf 6 L (.int (h.1 71 k) :: st) h Q) : E X d FM_openOf 5 L (.int i :: .ref 71 :: st) h Q := by
  subst e
  exact FM_openOf_5  (vp_in_nI hk (by omega)) (by rw [nI_clamp (show k < 2 ^ 31 by omega)]; exact kk)
theorem FM_openOf_30n {X : SX} {d : Nat} {L : List Value} {st : List Value} {h : HH} {Q : Int32 → HH → Prop} {i : Int32}  {k : Nat} (e : i = nI k) (hk : k < 12) (kk : E X d FM_openOf 31 L (.int (h.1 71 k) :: st) h Q) : E X d FM_openOf 30 L (.int i :: .ref 71 :: st) h Q := by
  subst e
  exact FM_openOf_30  (vp_in_nI hk (by omega)) (by rw [nI_clamp (show k < 2 ^ 31 by omega)]; exact kk)
theorem FM_openOf_40n {X : SX} {d : Nat} {L : List Value} {st : List Value} {h : HH} {Q : Int32 → HH → Prop} {i : Int32}  {k : Nat} (e : i = nI k) (hk : k < 12) (kk : E X d FM_openOf 41 L (.int (h.1 71 k) :: st) h Q) : E X d FM_openOf 40 L (.int i :: .ref 71 :: st) h Q := by
  subst e
  exact FM_openOf_40  (vp_in_nI hk (by omega)) (by rw [nI_clamp (show k < 2 ^ 31 by omega)]; exact kk)
theorem FM_ran_18n {X : SX} {d : Nat} {L : List Value} {st : List Value} {h : HH} {Q : Int32 → HH → Prop} {i : Int32} {v : Int32}  {k : Nat} (e : i = nI k) (hk : k < 50) (kk : E X d FM_ran 19 L st (pI h 103 k v) Q) : E X d FM_ran 18 L (.int v :: .int i :: .ref 103 :: st) h Q := by
  subst e
  exact FM_ran_18  (vp_in_nI hk (by omega)) (by rw [nI_clamp (show k < 2 ^ 31 by omega)]; exact kk)
theorem FM_open10_12n {X : SX} {d : Nat} {L : List Value} {st : List Value} {h : HH} {Q : Int32 → HH → Prop} {i : Int32}  {k : Nat} (e : i = nI k) (hk : k < 12) (kk : E X d FM_open10 13 L (.int (h.1 75 k) :: st) h Q) : E X d FM_open10 12 L (.int i :: .ref 75 :: st) h Q := by
  subst e
  exact FM_open10_12  (vp_in_nI hk (by omega)) (by rw [nI_clamp (show k < 2 ^ 31 by omega)]; exact kk)
theorem FM_payOf_5n {X : SX} {d : Nat} {L : List Value} {st : List Value} {h : HH} {Q : Int32 → HH → Prop} {i : Int32}  {k : Nat} (e : i = nI k) (hk : k < 12) (kk : E X d FM_payOf 6 L (.int (h.1 71 k) :: st) h Q) : E X d FM_payOf 5 L (.int i :: .ref 71 :: st) h Q := by
  subst e
  exact FM_payOf_5  (vp_in_nI hk (by omega)) (by rw [nI_clamp (show k < 2 ^ 31 by omega)]; exact kk)
theorem FM_payOf_30n {X : SX} {d : Nat} {L : List Value} {st : List Value} {h : HH} {Q : Int32 → HH → Prop} {i : Int32}  {k : Nat} (e : i = nI k) (hk : k < 12) (kk : E X d FM_payOf 31 L (.int (h.1 71 k) :: st) h Q) : E X d FM_payOf 30 L (.int i :: .ref 71 :: st) h Q := by
  subst e
  exact FM_payOf_30  (vp_in_nI hk (by omega)) (by rw [nI_clamp (show k < 2 ^ 31 by omega)]; exact kk)
theorem FM_pay20_17n {X : SX} {d : Nat} {L : List Value} {st : List Value} {h : HH} {Q : Int32 → HH → Prop} {i : Int32}  {k : Nat} (e : i = nI k) (hk : k < 12) (kk : E X d FM_pay20 18 L (.int (h.1 73 k) :: st) h Q) : E X d FM_pay20 17 L (.int i :: .ref 73 :: st) h Q := by
  subst e
  exact FM_pay20_17  (vp_in_nI hk (by omega)) (by rw [nI_clamp (show k < 2 ^ 31 by omega)]; exact kk)
theorem FM_endOf_5n {X : SX} {d : Nat} {L : List Value} {st : List Value} {h : HH} {Q : Int32 → HH → Prop} {i : Int32}  {k : Nat} (e : i = nI k) (hk : k < 12) (kk : E X d FM_endOf 6 L (.int (h.1 71 k) :: st) h Q) : E X d FM_endOf 5 L (.int i :: .ref 71 :: st) h Q := by
  subst e
  exact FM_endOf_5  (vp_in_nI hk (by omega)) (by rw [nI_clamp (show k < 2 ^ 31 by omega)]; exact kk)
theorem FM_endOf_37n {X : SX} {d : Nat} {L : List Value} {st : List Value} {h : HH} {Q : Int32 → HH → Prop} {i : Int32}  {k : Nat} (e : i = nI k) (hk : k < 12) (kk : E X d FM_endOf 38 L (.int (h.1 71 k) :: st) h Q) : E X d FM_endOf 37 L (.int i :: .ref 71 :: st) h Q := by
  subst e
  exact FM_endOf_37  (vp_in_nI hk (by omega)) (by rw [nI_clamp (show k < 2 ^ 31 by omega)]; exact kk)
theorem FM_endOf_62n {X : SX} {d : Nat} {L : List Value} {st : List Value} {h : HH} {Q : Int32 → HH → Prop} {i : Int32}  {k : Nat} (e : i = nI k) (hk : k < 12) (kk : E X d FM_endOf 63 L (.int (h.1 71 k) :: st) h Q) : E X d FM_endOf 62 L (.int i :: .ref 71 :: st) h Q := by
  subst e
  exact FM_endOf_62  (vp_in_nI hk (by omega)) (by rw [nI_clamp (show k < 2 ^ 31 by omega)]; exact kk)
theorem FM_end50_17n {X : SX} {d : Nat} {L : List Value} {st : List Value} {h : HH} {Q : Int32 → HH → Prop} {i : Int32}  {k : Nat} (e : i = nI k) (hk : k < 12) (kk : E X d FM_end50 18 L (.int (h.1 73 k) :: st) h Q) : E X d FM_end50 17 L (.int i :: .ref 73 :: st) h Q := by
  subst e
  exact FM_end50_17  (vp_in_nI hk (by omega)) (by rw [nI_clamp (show k < 2 ^ 31 by omega)]; exact kk)
theorem FM_tellOf_5n {X : SX} {d : Nat} {L : List Value} {st : List Value} {h : HH} {Q : Int32 → HH → Prop} {i : Int32}  {k : Nat} (e : i = nI k) (hk : k < 12) (kk : E X d FM_tellOf 6 L (.int (h.1 71 k) :: st) h Q) : E X d FM_tellOf 5 L (.int i :: .ref 71 :: st) h Q := by
  subst e
  exact FM_tellOf_5  (vp_in_nI hk (by omega)) (by rw [nI_clamp (show k < 2 ^ 31 by omega)]; exact kk)
theorem FM_tellOf_15n {X : SX} {d : Nat} {L : List Value} {st : List Value} {h : HH} {Q : Int32 → HH → Prop} {i : Int32}  {k : Nat} (e : i = nI k) (hk : k < 12) (kk : E X d FM_tellOf 16 L (.int (h.1 71 k) :: st) h Q) : E X d FM_tellOf 15 L (.int i :: .ref 71 :: st) h Q := by
  subst e
  exact FM_tellOf_15  (vp_in_nI hk (by omega)) (by rw [nI_clamp (show k < 2 ^ 31 by omega)]; exact kk)
theorem FM_tellOf_40n {X : SX} {d : Nat} {L : List Value} {st : List Value} {h : HH} {Q : Int32 → HH → Prop} {i : Int32}  {k : Nat} (e : i = nI k) (hk : k < 12) (kk : E X d FM_tellOf 41 L (.int (h.1 71 k) :: st) h Q) : E X d FM_tellOf 40 L (.int i :: .ref 71 :: st) h Q := by
  subst e
  exact FM_tellOf_40  (vp_in_nI hk (by omega)) (by rw [nI_clamp (show k < 2 ^ 31 by omega)]; exact kk)
theorem FM_trace_25n {X : SX} {d : Nat} {L : List Value} {st : List Value} {h : HH} {Q : Int32 → HH → Prop} {i : Int32}  {k : Nat} (e : i = nI k) (hk : k < 50) (kk : E X d FM_trace 26 L (.int (h.1 103 k) :: st) h Q) : E X d FM_trace 25 L (.int i :: .ref 103 :: st) h Q := by
  subst e
  exact FM_trace_25  (vp_in_nI hk (by omega)) (by rw [nI_clamp (show k < 2 ^ 31 by omega)]; exact kk)
theorem FM_sheet_45n {X : SX} {d : Nat} {L : List Value} {st : List Value} {h : HH} {Q : Int32 → HH → Prop} {i : Int32} {v : Int32}  {k : Nat} (e : i = nI k) (hk : k < 4) (kk : E X d FM_sheet 46 L st (pI h 104 k v) Q) : E X d FM_sheet 45 L (.int v :: .int i :: .ref 104 :: st) h Q := by
  subst e
  exact FM_sheet_45  (vp_in_nI hk (by omega)) (by rw [nI_clamp (show k < 2 ^ 31 by omega)]; exact kk)
theorem FM_sheet_61n {X : SX} {d : Nat} {L : List Value} {st : List Value} {h : HH} {Q : Int32 → HH → Prop} {i : Int32} {v : Int32}  {k : Nat} (e : i = nI k) (hk : k < 4) (kk : E X d FM_sheet 62 L st (pI h 105 k v) Q) : E X d FM_sheet 61 L (.int v :: .int i :: .ref 105 :: st) h Q := by
  subst e
  exact FM_sheet_61  (vp_in_nI hk (by omega)) (by rw [nI_clamp (show k < 2 ^ 31 by omega)]; exact kk)
theorem FM_sheet_84n {X : SX} {d : Nat} {L : List Value} {st : List Value} {h : HH} {Q : Int32 → HH → Prop} {i : Int32} {v : Int32}  {k : Nat} (e : i = nI k) (hk : k < 160) (kk : E X d FM_sheet 85 L st (pI h 106 k v) Q) : E X d FM_sheet 84 L (.int v :: .int i :: .ref 106 :: st) h Q := by
  subst e
  exact FM_sheet_84  (vp_in_nI hk (by omega)) (by rw [nI_clamp (show k < 2 ^ 31 by omega)]; exact kk)
theorem FM_cell_33n {X : SX} {d : Nat} {L : List Value} {st : List Value} {h : HH} {Q : Int32 → HH → Prop} {i : Int32}  {k : Nat} (e : i = nI k) (hk : k < 4) (kk : E X d FM_cell 34 L (.int (h.1 104 k) :: st) h Q) : E X d FM_cell 33 L (.int i :: .ref 104 :: st) h Q := by
  subst e
  exact FM_cell_33  (vp_in_nI hk (by omega)) (by rw [nI_clamp (show k < 2 ^ 31 by omega)]; exact kk)
theorem FM_cell_52n {X : SX} {d : Nat} {L : List Value} {st : List Value} {h : HH} {Q : Int32 → HH → Prop} {i : Int32}  {k : Nat} (e : i = nI k) (hk : k < 4) (kk : E X d FM_cell 53 L (.int (h.1 105 k) :: st) h Q) : E X d FM_cell 52 L (.int i :: .ref 105 :: st) h Q := by
  subst e
  exact FM_cell_52  (vp_in_nI hk (by omega)) (by rw [nI_clamp (show k < 2 ^ 31 by omega)]; exact kk)
theorem FM_cell_83n {X : SX} {d : Nat} {L : List Value} {st : List Value} {h : HH} {Q : Int32 → HH → Prop} {i : Int32}  {k : Nat} (e : i = nI k) (hk : k < 4) (kk : E X d FM_cell 84 L (.int (h.1 104 k) :: st) h Q) : E X d FM_cell 83 L (.int i :: .ref 104 :: st) h Q := by
  subst e
  exact FM_cell_83  (vp_in_nI hk (by omega)) (by rw [nI_clamp (show k < 2 ^ 31 by omega)]; exact kk)
theorem FM_cell_93n {X : SX} {d : Nat} {L : List Value} {st : List Value} {h : HH} {Q : Int32 → HH → Prop} {i : Int32} {v : Int32}  {k : Nat} (e : i = nI k) (hk : k < 160) (kk : E X d FM_cell 94 L st (pI h 106 k v) Q) : E X d FM_cell 93 L (.int v :: .int i :: .ref 106 :: st) h Q := by
  subst e
  exact FM_cell_93  (vp_in_nI hk (by omega)) (by rw [nI_clamp (show k < 2 ^ 31 by omega)]; exact kk)
theorem FM_signs_88n {X : SX} {d : Nat} {L : List Value} {st : List Value} {h : HH} {Q : Int32 → HH → Prop} {i : Int32}  {k : Nat} (e : i = nI k) (hk : k < 4) (kk : E X d FM_signs 89 L (.int (h.1 104 k) :: st) h Q) : E X d FM_signs 88 L (.int i :: .ref 104 :: st) h Q := by
  subst e
  exact FM_signs_88  (vp_in_nI hk (by omega)) (by rw [nI_clamp (show k < 2 ^ 31 by omega)]; exact kk)
theorem FM_signs_105n {X : SX} {d : Nat} {L : List Value} {st : List Value} {h : HH} {Q : Int32 → HH → Prop} {i : Int32}  {k : Nat} (e : i = nI k) (hk : k < 4) (kk : E X d FM_signs 106 L (.int (h.1 104 k) :: st) h Q) : E X d FM_signs 105 L (.int i :: .ref 104 :: st) h Q := by
  subst e
  exact FM_signs_105  (vp_in_nI hk (by omega)) (by rw [nI_clamp (show k < 2 ^ 31 by omega)]; exact kk)
theorem FM_signs_131n {X : SX} {d : Nat} {L : List Value} {st : List Value} {h : HH} {Q : Int32 → HH → Prop} {i : Int32}  {k : Nat} (e : i = nI k) (hk : k < 4) (kk : E X d FM_signs 132 L (.int (h.1 105 k) :: st) h Q) : E X d FM_signs 131 L (.int i :: .ref 105 :: st) h Q := by
  subst e
  exact FM_signs_131  (vp_in_nI hk (by omega)) (by rw [nI_clamp (show k < 2 ^ 31 by omega)]; exact kk)
theorem FM_signs_147n {X : SX} {d : Nat} {L : List Value} {st : List Value} {h : HH} {Q : Int32 → HH → Prop} {i : Int32}  {k : Nat} (e : i = nI k) (hk : k < 4) (kk : E X d FM_signs 148 L (.int (h.1 105 k) :: st) h Q) : E X d FM_signs 147 L (.int i :: .ref 105 :: st) h Q := by
  subst e
  exact FM_signs_147  (vp_in_nI hk (by omega)) (by rw [nI_clamp (show k < 2 ^ 31 by omega)]; exact kk)
theorem FM_signs_185n {X : SX} {d : Nat} {L : List Value} {st : List Value} {h : HH} {Q : Int32 → HH → Prop} {i : Int32}  {k : Nat} (e : i = nI k) (hk : k < 160) (kk : E X d FM_signs 186 L (.int (h.1 106 k) :: st) h Q) : E X d FM_signs 185 L (.int i :: .ref 106 :: st) h Q := by
  subst e
  exact FM_signs_185  (vp_in_nI hk (by omega)) (by rw [nI_clamp (show k < 2 ^ 31 by omega)]; exact kk)
theorem FM_signs_242n {X : SX} {d : Nat} {L : List Value} {st : List Value} {h : HH} {Q : Int32 → HH → Prop} {i : Int32}  {k : Nat} (e : i = nI k) (hk : k < 160) (kk : E X d FM_signs 243 L (.int (h.1 106 k) :: st) h Q) : E X d FM_signs 242 L (.int i :: .ref 106 :: st) h Q := by
  subst e
  exact FM_signs_242  (vp_in_nI hk (by omega)) (by rw [nI_clamp (show k < 2 ^ 31 by omega)]; exact kk)
theorem FM_forge_109n {X : SX} {d : Nat} {L : List Value} {st : List Value} {h : HH} {Q : Int32 → HH → Prop} {i : Int32}  {k : Nat} (e : i = nI k) (hk : k < 12) (kk : E X d FM_forge 110 L (.int (h.1 71 k) :: st) h Q) : E X d FM_forge 109 L (.int i :: .ref 71 :: st) h Q := by
  subst e
  exact FM_forge_109  (vp_in_nI hk (by omega)) (by rw [nI_clamp (show k < 2 ^ 31 by omega)]; exact kk)
theorem FM_forge_129n {X : SX} {d : Nat} {L : List Value} {st : List Value} {h : HH} {Q : Int32 → HH → Prop} {i : Int32}  {k : Nat} (e : i = nI k) (hk : k < 12) (kk : E X d FM_forge 130 L (.int (h.1 71 k) :: st) h Q) : E X d FM_forge 129 L (.int i :: .ref 71 :: st) h Q := by
  subst e
  exact FM_forge_129  (vp_in_nI hk (by omega)) (by rw [nI_clamp (show k < 2 ^ 31 by omega)]; exact kk)
theorem FM_forge_207n {X : SX} {d : Nat} {L : List Value} {st : List Value} {h : HH} {Q : Int32 → HH → Prop} {i : Int32}  {k : Nat} (e : i = nI k) (hk : k < 12) (kk : E X d FM_forge 208 L (.int (h.1 71 k) :: st) h Q) : E X d FM_forge 207 L (.int i :: .ref 71 :: st) h Q := by
  subst e
  exact FM_forge_207  (vp_in_nI hk (by omega)) (by rw [nI_clamp (show k < 2 ^ 31 by omega)]; exact kk)
theorem FM_forge_218n {X : SX} {d : Nat} {L : List Value} {st : List Value} {h : HH} {Q : Int32 → HH → Prop} {i : Int32}  {k : Nat} (e : i = nI k) (hk : k < 12) (kk : E X d FM_forge 219 L (.int (h.1 71 k) :: st) h Q) : E X d FM_forge 218 L (.int i :: .ref 71 :: st) h Q := by
  subst e
  exact FM_forge_218  (vp_in_nI hk (by omega)) (by rw [nI_clamp (show k < 2 ^ 31 by omega)]; exact kk)
theorem FM_forge_230n {X : SX} {d : Nat} {L : List Value} {st : List Value} {h : HH} {Q : Int32 → HH → Prop} {i : Int32}  {k : Nat} (e : i = nI k) (hk : k < 12) (kk : E X d FM_forge 231 L (.int (h.1 71 k) :: st) h Q) : E X d FM_forge 230 L (.int i :: .ref 71 :: st) h Q := by
  subst e
  exact FM_forge_230  (vp_in_nI hk (by omega)) (by rw [nI_clamp (show k < 2 ^ 31 by omega)]; exact kk)
theorem FM_shorts_5n {X : SX} {d : Nat} {L : List Value} {st : List Value} {h : HH} {Q : Int32 → HH → Prop} {i : Int32}  {k : Nat} (e : i = nI k) (hk : k < 4) (kk : E X d FM_shorts 6 L (.int (h.1 104 k) :: st) h Q) : E X d FM_shorts 5 L (.int i :: .ref 104 :: st) h Q := by
  subst e
  exact FM_shorts_5  (vp_in_nI hk (by omega)) (by rw [nI_clamp (show k < 2 ^ 31 by omega)]; exact kk)
theorem FM_shorts_15n {X : SX} {d : Nat} {L : List Value} {st : List Value} {h : HH} {Q : Int32 → HH → Prop} {i : Int32}  {k : Nat} (e : i = nI k) (hk : k < 4) (kk : E X d FM_shorts 16 L (.int (h.1 104 k) :: st) h Q) : E X d FM_shorts 15 L (.int i :: .ref 104 :: st) h Q := by
  subst e
  exact FM_shorts_15  (vp_in_nI hk (by omega)) (by rw [nI_clamp (show k < 2 ^ 31 by omega)]; exact kk)
theorem FM_shorts_32n {X : SX} {d : Nat} {L : List Value} {st : List Value} {h : HH} {Q : Int32 → HH → Prop} {i : Int32}  {k : Nat} (e : i = nI k) (hk : k < 4) (kk : E X d FM_shorts 33 L (.int (h.1 104 k) :: st) h Q) : E X d FM_shorts 32 L (.int i :: .ref 104 :: st) h Q := by
  subst e
  exact FM_shorts_32  (vp_in_nI hk (by omega)) (by rw [nI_clamp (show k < 2 ^ 31 by omega)]; exact kk)
theorem FM_shorts_51n {X : SX} {d : Nat} {L : List Value} {st : List Value} {h : HH} {Q : Int32 → HH → Prop} {i : Int32}  {k : Nat} (e : i = nI k) (hk : k < 4) (kk : E X d FM_shorts 52 L (.int (h.1 105 k) :: st) h Q) : E X d FM_shorts 51 L (.int i :: .ref 105 :: st) h Q := by
  subst e
  exact FM_shorts_51  (vp_in_nI hk (by omega)) (by rw [nI_clamp (show k < 2 ^ 31 by omega)]; exact kk)
theorem FM_shorts_71n {X : SX} {d : Nat} {L : List Value} {st : List Value} {h : HH} {Q : Int32 → HH → Prop} {i : Int32}  {k : Nat} (e : i = nI k) (hk : k < 160) (kk : E X d FM_shorts 72 L (.int (h.1 106 k) :: st) h Q) : E X d FM_shorts 71 L (.int i :: .ref 106 :: st) h Q := by
  subst e
  exact FM_shorts_71  (vp_in_nI hk (by omega)) (by rw [nI_clamp (show k < 2 ^ 31 by omega)]; exact kk)
theorem FM_copied_5n {X : SX} {d : Nat} {L : List Value} {st : List Value} {h : HH} {Q : Int32 → HH → Prop} {i : Int32}  {k : Nat} (e : i = nI k) (hk : k < 4) (kk : E X d FM_copied 6 L (.int (h.1 104 k) :: st) h Q) : E X d FM_copied 5 L (.int i :: .ref 104 :: st) h Q := by
  subst e
  exact FM_copied_5  (vp_in_nI hk (by omega)) (by rw [nI_clamp (show k < 2 ^ 31 by omega)]; exact kk)
theorem FM_copied_15n {X : SX} {d : Nat} {L : List Value} {st : List Value} {h : HH} {Q : Int32 → HH → Prop} {i : Int32}  {k : Nat} (e : i = nI k) (hk : k < 4) (kk : E X d FM_copied 16 L (.int (h.1 104 k) :: st) h Q) : E X d FM_copied 15 L (.int i :: .ref 104 :: st) h Q := by
  subst e
  exact FM_copied_15  (vp_in_nI hk (by omega)) (by rw [nI_clamp (show k < 2 ^ 31 by omega)]; exact kk)
theorem FM_copied_31n {X : SX} {d : Nat} {L : List Value} {st : List Value} {h : HH} {Q : Int32 → HH → Prop} {i : Int32}  {k : Nat} (e : i = nI k) (hk : k < 4) (kk : E X d FM_copied 32 L (.int (h.1 104 k) :: st) h Q) : E X d FM_copied 31 L (.int i :: .ref 104 :: st) h Q := by
  subst e
  exact FM_copied_31  (vp_in_nI hk (by omega)) (by rw [nI_clamp (show k < 2 ^ 31 by omega)]; exact kk)
theorem FM_copied_55n {X : SX} {d : Nat} {L : List Value} {st : List Value} {h : HH} {Q : Int32 → HH → Prop} {i : Int32}  {k : Nat} (e : i = nI k) (hk : k < 4) (kk : E X d FM_copied 56 L (.int (h.1 105 k) :: st) h Q) : E X d FM_copied 55 L (.int i :: .ref 105 :: st) h Q := by
  subst e
  exact FM_copied_55  (vp_in_nI hk (by omega)) (by rw [nI_clamp (show k < 2 ^ 31 by omega)]; exact kk)
theorem FM_copied_99n {X : SX} {d : Nat} {L : List Value} {st : List Value} {h : HH} {Q : Int32 → HH → Prop} {i : Int32}  {k : Nat} (e : i = nI k) (hk : k < 160) (kk : E X d FM_copied 100 L (.int (h.1 106 k) :: st) h Q) : E X d FM_copied 99 L (.int i :: .ref 106 :: st) h Q := by
  subst e
  exact FM_copied_99  (vp_in_nI hk (by omega)) (by rw [nI_clamp (show k < 2 ^ 31 by omega)]; exact kk)
