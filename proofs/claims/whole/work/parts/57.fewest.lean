def rin (f t : Nat → Int32) (s : Int32) : Nat → Int32
  | 0 => s
  | n + 1 => if (s >>> (f n &&& 31)) &&& 1 = 1 then rin f t s n ||| ((1 : Int32) <<< (t n &&& 31)) else rin f t s n
def rou (f t : Nat → Int32) (W : Nat) (s : Int32) : Nat → Int32
  | 0 => s
  | k + 1 => rin f t (rou f t W s k) W
def wIn (f : Nat → Int32) (s : Int32) : Nat → Int32
  | 0 => 0
  | n + 1 => if (s >>> (f n &&& 31)) &&& 1 = 1 then wIn f s n ||| ((1 : Int32) <<< (nI n &&& 31)) else wIn f s n
def sO (f : Nat → Int32) (s : Int32) : Nat → Int32
  | 0 => 0
  | n + 1 => if (s >>> (nI n &&& 31)) &&& 1 = 1 then sO f s n + f n else sO f s n
def mcI (x : Int32) : Nat → Int32
  | 0 => 0
  | n + 1 => mcI x n + ((x >>> (nI n &&& 31)) &&& 1)
theorem rin_cg {f t f' t' : Nat → Int32} {s : Int32} : ∀ n, (∀ k, k < n → f k = f' k ∧ t k = t' k) → rin f t s n = rin f' t' s n
  | 0, _ => rfl
  | n + 1, e => by unfold rin; rw [(e n (by omega)).1, (e n (by omega)).2, rin_cg n (fun k hk => e k (by omega))]
theorem rou_cg {f t f' t' : Nat → Int32} {s : Int32} {W : Nat} (e : ∀ k, k < W → f k = f' k ∧ t k = t' k) : ∀ n, rou f t W s n = rou f' t' W s n
  | 0 => rfl
  | n + 1 => by unfold rou; rw [rou_cg e n, rin_cg W e]
theorem wIn_cg {f f' : Nat → Int32} {s : Int32} : ∀ n, (∀ k, k < n → f k = f' k) → wIn f s n = wIn f' s n
  | 0, _ => rfl
  | n + 1, e => by unfold wIn; rw [e n (by omega), wIn_cg n (fun k hk => e k (by omega))]
theorem sO_cg {f f' : Nat → Int32} {s : Int32} : ∀ n, (∀ k, k < n → f k = f' k) → sO f s n = sO f' s n
  | 0, _ => rfl
  | n + 1, e => by unfold sO; rw [e n (by omega), sO_cg n (fun k hk => e k (by omega))]
/-- the best set among the first s -/
def bst (H V : Int32 → Int32) (near need : Int32) : Nat → Int32
  | 0 => -1
  | s + 1 => if (nI s &&& (near ^^^ (-1)) = 0 ∧ need ≤ H (nI s)) ∧ (bst H V near need s = -1 ∨ mcI (nI s) 12 < mcI (bst H V near need s) 12 ∨ mcI (nI s) 12 = mcI (bst H V near need s) 12 ∧ V (bst H V near need s) < V (nI s)) then nI s else bst H V near need s
theorem bst_r {H V : Int32 → Int32} {near need : Int32} : ∀ s, bst H V near need s = -1 ∨ ∃ t, t < s ∧ bst H V near need s = nI t
  | 0 => Or.inl rfl
  | s + 1 => by
    unfold bst
    split
    · exact Or.inr ⟨s, by omega, rfl⟩
    · rcases bst_r (H := H) (V := V) (near := near) (need := need) s with e | ⟨t, h1, h2⟩
      · exact Or.inl e
      · exact Or.inr ⟨t, by omega, h2⟩
theorem bst_cg {H V H' V' : Int32 → Int32} {near need : Int32} (e1 : ∀ x, H x = H' x) (e2 : ∀ x, V x = V' x) : ∀ s, bst H V near need s = bst H' V' near need s
  | 0 => rfl
  | s + 1 => by unfold bst; simp only [bst_cg e1 e2 s, e1, e2]
section FE
variable {X : SX} {d D W K : Nat} {h : HH} {Q : Int32 → HH → Prop} {x y z v s : Int32}
def us (x k : Int32) : Int32 := (x.toUInt32 >>> (k.toUInt32 &&& Int32.toUInt32 31)).toInt32
def bc1 (x : Int32) : Int32 := x - (us x 1 &&& 1431655765)
def bc2 (x : Int32) : Int32 := (x &&& 858993459) + (us x 2 &&& 858993459)
def bc3 (x : Int32) : Int32 := (x + us x 4) &&& 252645135
def bc4 (x : Int32) : Int32 := x + us x 8
def bc5 (x : Int32) : Int32 := (x + us x 16) &&& 63
def bcI (x : Int32) : Int32 := bc5 (bc4 (bc3 (bc2 (bc1 x))))
theorem bc_mc : ∀ n, n < 256 → bcI (nI n) = mcI (nI n) 12 ∧ mcI (nI n) 12 = nI ((mcI (nI n) 12).toNatClampNeg) ∧ (mcI (nI n) 12).toNatClampNeg ≤ 12 := by decide +kernel
theorem JI_bitCount_c (q : Q (bcI x) h) : E X d JI_bitCount 0 [.int x] [] h Q := by
  refine (JI_bitCount_0 (JI_bitCount_1 (JI_bitCount_2 (JI_bitCount_3 (JI_bitCount_4 (JI_bitCount_7 (JI_bitCount_8 (JI_bitCount_9 (JI_bitCount_10 (JI_bitCount_11 (JI_bitCount_14 (JI_bitCount_15 (JI_bitCount_16 (JI_bitCount_17 (JI_bitCount_18 (JI_bitCount_21 (JI_bitCount_22 (JI_bitCount_23 (JI_bitCount_24 (JI_bitCount_25 (JI_bitCount_26 (JI_bitCount_27 (JI_bitCount_28 (JI_bitCount_29 (JI_bitCount_32 (JI_bitCount_33 (JI_bitCount_34 (JI_bitCount_35 (JI_bitCount_36 (JI_bitCount_38 (JI_bitCount_39 (JI_bitCount_40 (JI_bitCount_41 (JI_bitCount_42 (JI_bitCount_43 (JI_bitCount_45 (JI_bitCount_46 (JI_bitCount_47 (JI_bitCount_48 (JI_bitCount_49 (JI_bitCount_51 (JI_bitCount_52 ?_))))))))))))))))))))))))))))))))))))))))))
  exact q
theorem Wo_sumOver_l {a : Nat} (ha : LAY[a]? = some (Sum.inr (0, 8))) (hK : h.1 16 3 = nI K) (h8 : K ≤ 8) (k : Q (sO (h.1 a) s K) h) : ∀ (m j : Nat), j + m = K → E X d Wo_sumOver 5 [.ref 16, .int s, .ref a, .int (sO (h.1 a) s j), .int (nI j)] [] h Q := by
  intro m
  induction m with
  | zero =>
    intro j hj
    obtain rfl : j = K := by omega
    refine (Wo_sumOver_5 (Wo_sumOver_7 (Wo_sumOver_8 (Wo_sumOver_11 (fun c11 => (Wo_sumOver_37 (Wo_sumOver_38 ?_))) (fun c11 => ?_)))))
    · exact k
    · rw [hK] at c11; exact absurd (Int32.le_refl _) c11
  | succ m ih =>
    intro j hj
    have nx : ∀ v, v = sO (h.1 a) s (j + 1) → E X d Wo_sumOver 5 [.ref 16, .int s, .ref a, .int v, .int (nI j + 1)] [] h Q := fun v hv => by
      rw [hv, nI_1]; exact ih (j + 1) (by omega)
    refine (Wo_sumOver_5 (Wo_sumOver_7 (Wo_sumOver_8 (Wo_sumOver_11 (fun c11 => (Wo_sumOver_37 (Wo_sumOver_38 ?_))) (fun c11 => (Wo_sumOver_14 (Wo_sumOver_15 (Wo_sumOver_17 (Wo_sumOver_18 (Wo_sumOver_19 (Wo_sumOver_20 (Wo_sumOver_21 (fun c21 => (Wo_sumOver_31 (Wo_sumOver_34 ?_))) (fun c21 => (Wo_sumOver_24 (Wo_sumOver_25 (Wo_sumOver_26 ?_))))))))))))))))
    · rw [hK] at c11; exact absurd ((leN rfl rfl (by omega) (by omega)).mp c11) (by omega)
    · refine nx _ ?_
      rw [sO, if_neg c21]
    · refine Wo_sumOver_28n ha rfl (by omega) (by omega) ?_
      refine (Wo_sumOver_29 (Wo_sumOver_30 (Wo_sumOver_31 (Wo_sumOver_34 ?_))))
      refine nx _ ?_
      rw [sO, if_pos c21]
theorem Wo_sumOver_c {a : Nat} (ha : LAY[a]? = some (Sum.inr (0, 8))) (hK : h.1 16 3 = nI K) (h8 : K ≤ 8) (k : Q (sO (h.1 a) s K) h) : E X d Wo_sumOver 0 [.ref 16, .int s, .ref a, U0, U0] [] h Q := by
  refine (Wo_sumOver_0 (Wo_sumOver_1 (Wo_sumOver_2 (Wo_sumOver_3 ?_))))
  exact Wo_sumOver_l ha hK h8 k K 0 (by omega)
theorem Wo_worksIn_l (hK : h.1 16 3 = nI K) (h8 : K ≤ 8) (k : Q (wIn (h.1 17) s K) h) : ∀ (m j : Nat), j + m = K → E X d Wo_worksIn 4 [.ref 16, .int s, .int (wIn (h.1 17) s j), .int (nI j)] [] h Q := by
  intro m
  induction m with
  | zero =>
    intro j hj
    obtain rfl : j = K := by omega
    refine (Wo_worksIn_4 (Wo_worksIn_5 (Wo_worksIn_6 (Wo_worksIn_9 (fun c9 => (Wo_worksIn_38 (Wo_worksIn_39 ?_))) (fun c9 => ?_)))))
    · exact k
    · rw [hK] at c9; exact absurd (Int32.le_refl _) c9
  | succ m ih =>
    intro j hj
    have nx : ∀ v, v = wIn (h.1 17) s (j + 1) → E X d Wo_worksIn 4 [.ref 16, .int s, .int v, .int (nI j + 1)] [] h Q := fun v hv => by
      rw [hv, nI_1]; exact ih (j + 1) (by omega)
    refine (Wo_worksIn_4 (Wo_worksIn_5 (Wo_worksIn_6 (Wo_worksIn_9 (fun c9 => (Wo_worksIn_38 (Wo_worksIn_39 ?_))) (fun c9 => (Wo_worksIn_12 (Wo_worksIn_13 (Wo_worksIn_14 (Wo_worksIn_17 (Wo_worksIn_18n (by first | assumption | exact rfl) (by omega) (Wo_worksIn_19 (Wo_worksIn_20 (Wo_worksIn_21 (Wo_worksIn_22 (Wo_worksIn_23 (fun c23 => (Wo_worksIn_32 (Wo_worksIn_35 ?_))) (fun c23 => (Wo_worksIn_26 (Wo_worksIn_27 (Wo_worksIn_28 (Wo_worksIn_29 (Wo_worksIn_30 (Wo_worksIn_31 (Wo_worksIn_32 (Wo_worksIn_35 ?_))))))))))))))))))))))))
    · rw [hK] at c9; exact absurd ((leN rfl rfl (by omega) (by omega)).mp c9) (by omega)
    · refine nx _ ?_
      rw [wIn, if_neg c23]
    · refine nx _ ?_
      rw [wIn, if_pos c23]
theorem Wa_reached_i {R k0 : Nat} {x : Int32} (hW : h.1 11 4 = nI W) (h12 : W ≤ 12) {y : Int32} (k : E X d Wa_reached 7 [.ref 11, .int x, .int y, .int (rin (h.1 12) (h.1 13) s W), .int (nI k0 + 1), .int (rin (h.1 12) (h.1 13) s W), .int (nI W)] [] h Q) : ∀ (m j : Nat), j + m = W → E X d Wa_reached 19 [.ref 11, .int x, .int y, .int s, .int (nI k0), .int (rin (h.1 12) (h.1 13) s j), .int (nI j)] [] h Q := by
  intro m
  induction m with
  | zero =>
    intro j hj
    obtain rfl : j = W := by omega
    refine (Wa_reached_19 (Wa_reached_21 (Wa_reached_22 (Wa_reached_25 (fun c25 => (Wa_reached_63 (Wa_reached_65 (Wa_reached_66 (Wa_reached_69 ?_))))) (fun c25 => ?_)))))
    · exact k
    · rw [hW] at c25; exact absurd (Int32.le_refl _) c25
  | succ m ih =>
    intro j hj
    have nx : ∀ v, v = rin (h.1 12) (h.1 13) s (j + 1) → E X d Wa_reached 19 [.ref 11, .int x, .int y, .int s, .int (nI k0), .int v, .int (nI j + 1)] [] h Q := fun v hv => by
      rw [hv, nI_1]; exact ih (j + 1) (by omega)
    refine (Wa_reached_19 (Wa_reached_21 (Wa_reached_22 (Wa_reached_25 (fun c25 => (Wa_reached_63 (Wa_reached_65 (Wa_reached_66 (Wa_reached_69 ?_))))) (fun c25 => (Wa_reached_28 (Wa_reached_29 (Wa_reached_30 (Wa_reached_33 (Wa_reached_35n (by first | assumption | exact rfl) (by omega) (Wa_reached_36 (Wa_reached_37 (Wa_reached_38 (Wa_reached_39 (Wa_reached_40 (fun c40 => (Wa_reached_57 (Wa_reached_60 ?_))) (fun c40 => (Wa_reached_43 (Wa_reached_45 (Wa_reached_46 (Wa_reached_47 (Wa_reached_50 (Wa_reached_52n (by first | assumption | exact rfl) (by omega) (Wa_reached_53 (Wa_reached_54 (Wa_reached_55 (Wa_reached_57 (Wa_reached_60 ?_)))))))))))))))))))))))))))
    · rw [hW] at c25; exact absurd ((leN rfl rfl (by omega) (by omega)).mp c25) (by omega)
    · refine nx _ ?_
      rw [rin, if_neg c40]
    · refine nx _ ?_
      rw [rin, if_pos c40]
theorem Wa_reached_o {R : Nat} {x : Int32} (hW : h.1 11 4 = nI W) (h12 : W ≤ 12) (hR : R ≤ 5) (k : Q (rou (h.1 12) (h.1 13) W s R) h) : ∀ (m j : Nat) (a5 a6 : Value), j + m = R → E X d Wa_reached 7 [.ref 11, .int x, .int (nI R), .int (rou (h.1 12) (h.1 13) W s j), .int (nI j), a5, a6] [] h Q := by
  intro m
  induction m with
  | zero =>
    intro j a5 a6 hj
    obtain rfl : j = R := by omega
    refine (Wa_reached_7 (Wa_reached_9 (Wa_reached_10 (fun c10 => (Wa_reached_72 (Wa_reached_73 ?_))) (fun c10 => ?_))))
    · exact k
    · exact absurd (Int32.le_refl _) c10
  | succ m ih =>
    intro j a5 a6 hj
    refine (Wa_reached_7 (Wa_reached_9 (Wa_reached_10 (fun c10 => ?_) (fun c10 => (Wa_reached_13 (Wa_reached_14 (Wa_reached_16 (Wa_reached_17 ?_))))))))
    · exact absurd ((leN rfl rfl (by omega) (by omega)).mp c10) (by omega)
    · refine Wa_reached_i (R := R) hW h12 ?_ W 0 (by omega)
      rw [nI_1]
      exact ih (j + 1) _ _ (by omega)
theorem Wa_reached_c {R : Nat} {x y : Int32} (hW : h.1 11 4 = nI W) (h12 : W ≤ 12) (hR : R ≤ 5) (ey : y = nI R) (k : Q (rou (h.1 12) (h.1 13) W ((1 : Int32) <<< (x &&& 31)) R) h) : E X d Wa_reached 0 [.ref 11, .int x, .int y, U0, U0, U0, U0] [] h Q := by
  subst ey
  refine (Wa_reached_0 (Wa_reached_1 (Wa_reached_2 (Wa_reached_3 (Wa_reached_4 (Wa_reached_5 ?_))))))
  exact Wa_reached_o hW h12 hR k R 0 _ _ (by omega)
theorem FM_reachedBy_i {k0 : Nat} {x : Int32} (hW : h.1 57 31 = nI W) (h12 : W ≤ 12) {y : Int32} (k : E X d FM_reachedBy 7 [.ref 57, .int x, .int y, .int (rin (h.1 80) (h.1 81) s W), .int (nI k0 + 1), .int (rin (h.1 80) (h.1 81) s W), .int (nI W)] [] h Q) : ∀ (m j : Nat), j + m = W → E X d FM_reachedBy 19 [.ref 57, .int x, .int y, .int s, .int (nI k0), .int (rin (h.1 80) (h.1 81) s j), .int (nI j)] [] h Q := by
  intro m
  induction m with
  | zero =>
    intro j hj
    obtain rfl : j = W := by omega
    refine (FM_reachedBy_19 (FM_reachedBy_21 (FM_reachedBy_22 (FM_reachedBy_25 (fun c25 => (FM_reachedBy_67 (FM_reachedBy_69 (FM_reachedBy_70 (FM_reachedBy_73 ?_))))) (fun c25 => ?_)))))
    · exact k
    · rw [hW] at c25; exact absurd (Int32.le_refl _) c25
  | succ m ih =>
    intro j hj
    have nx : ∀ v, v = rin (h.1 80) (h.1 81) s (j + 1) → E X d FM_reachedBy 19 [.ref 57, .int x, .int y, .int s, .int (nI k0), .int v, .int (nI j + 1)] [] h Q := fun v hv => by
      rw [hv, nI_1]; exact ih (j + 1) (by omega)
    refine (FM_reachedBy_19 (FM_reachedBy_21 (FM_reachedBy_22 (FM_reachedBy_25 (fun c25 => (FM_reachedBy_67 (FM_reachedBy_69 (FM_reachedBy_70 (FM_reachedBy_73 ?_))))) (fun c25 => (FM_reachedBy_28 (FM_reachedBy_30 (FM_reachedBy_31 (FM_reachedBy_32 (FM_reachedBy_35 (FM_reachedBy_37n (by first | assumption | exact rfl) (by omega) (FM_reachedBy_38 (FM_reachedBy_39 (FM_reachedBy_40 (FM_reachedBy_41 (FM_reachedBy_42 (fun c42 => (FM_reachedBy_57 (FM_reachedBy_58 (FM_reachedBy_59 (FM_reachedBy_61 (FM_reachedBy_64 ?_)))))) (fun c42 => (FM_reachedBy_45 (FM_reachedBy_46 (FM_reachedBy_47 (FM_reachedBy_50 (FM_reachedBy_52n (by first | assumption | exact rfl) (by omega) (FM_reachedBy_53 (FM_reachedBy_54 (FM_reachedBy_58 (FM_reachedBy_59 (FM_reachedBy_61 (FM_reachedBy_64 ?_))))))))))))))))))))))))))))
    · rw [hW] at c25; exact absurd ((leN rfl rfl (by omega) (by omega)).mp c25) (by omega)
    · refine nx _ ?_
      rw [rin, if_neg c42, or0]
    · refine nx _ ?_
      rw [rin, if_pos c42]
theorem FM_reachedBy_o {R : Nat} {x : Int32} (hW : h.1 57 31 = nI W) (h12 : W ≤ 12) (hR : R ≤ 5) (k : Q (rou (h.1 80) (h.1 81) W s R) h) : ∀ (m j : Nat) (a5 a6 : Value), j + m = R → E X d FM_reachedBy 7 [.ref 57, .int x, .int (nI R), .int (rou (h.1 80) (h.1 81) W s j), .int (nI j), a5, a6] [] h Q := by
  intro m
  induction m with
  | zero =>
    intro j a5 a6 hj
    obtain rfl : j = R := by omega
    refine (FM_reachedBy_7 (FM_reachedBy_9 (FM_reachedBy_10 (fun c10 => (FM_reachedBy_76 (FM_reachedBy_77 ?_))) (fun c10 => ?_))))
    · exact k
    · exact absurd (Int32.le_refl _) c10
  | succ m ih =>
    intro j a5 a6 hj
    refine (FM_reachedBy_7 (FM_reachedBy_9 (FM_reachedBy_10 (fun c10 => ?_) (fun c10 => (FM_reachedBy_13 (FM_reachedBy_14 (FM_reachedBy_16 (FM_reachedBy_17 ?_))))))))
    · exact absurd ((leN rfl rfl (by omega) (by omega)).mp c10) (by omega)
    · refine FM_reachedBy_i hW h12 ?_ W 0 (by omega)
      rw [nI_1]
      exact ih (j + 1) _ _ (by omega)
theorem FM_reachedBy_c {R : Nat} {x y : Int32} (hW : h.1 57 31 = nI W) (h12 : W ≤ 12) (hR : R ≤ 5) (ey : y = nI R) (k : Q (rou (h.1 80) (h.1 81) W ((1 : Int32) <<< (x &&& 31)) R) h) : E X d FM_reachedBy 0 [.ref 57, .int x, .int y, U0, U0, U0, U0] [] h Q := by
  subst ey
  refine (FM_reachedBy_0 (FM_reachedBy_1 (FM_reachedBy_2 (FM_reachedBy_3 (FM_reachedBy_4 (FM_reachedBy_5 ?_))))))
  exact FM_reachedBy_o hW h12 hR k R 0 _ _ (by omega)
theorem FM_sumOf_l {y : Int32} (hy : y = 0 ∨ y = 1) (hK : h.1 57 36 = nI K) (h8 : K ≤ 8) (k : Q (sO (if y = 1 then h.1 85 else h.1 86) s K) h) : ∀ (m j : Nat), j + m = K → E X d FM_sumOf 5 [.ref 57, .int s, .int y, .int (sO (if y = 1 then h.1 85 else h.1 86) s j), .int (nI j)] [] h Q := by
  intro m
  induction m with
  | zero =>
    intro j hj
    obtain rfl : j = K := by omega
    refine (FM_sumOf_5 (FM_sumOf_7 (FM_sumOf_8 (FM_sumOf_11 (fun c11 => (FM_sumOf_57 (FM_sumOf_58 ?_))) (fun c11 => ?_)))))
    · exact k
    · rw [hK] at c11; exact absurd (Int32.le_refl _) c11
  | succ m ih =>
    intro j hj
    have nx : ∀ v, v = sO (if y = 1 then h.1 85 else h.1 86) s (j + 1) → E X d FM_sumOf 5 [.ref 57, .int s, .int y, .int v, .int (nI j + 1)] [] h Q := fun v hv => by
      rw [hv, nI_1]; exact ih (j + 1) (by omega)
    have hj32 : j < 32 := by omega
    have b01 : (s >>> (nI j &&& 31)) &&& 1 = 1 ↔ ¬ (s >>> (nI j &&& 31)) &&& 1 = 0 := by
      rw [bt_get1 s hj32, bt_get0 s hj32]; cases bt s j <;> simp
    refine (FM_sumOf_5 (FM_sumOf_7 (FM_sumOf_8 (FM_sumOf_11 (fun c11 => (FM_sumOf_57 (FM_sumOf_58 ?_))) (fun c11 => (FM_sumOf_14 (FM_sumOf_15 (FM_sumOf_16 (FM_sumOf_18 (FM_sumOf_19 (FM_sumOf_20 (FM_sumOf_21 (fun c21 => (FM_sumOf_28 (FM_sumOf_29 (fun c29 => (FM_sumOf_42 (FM_sumOf_43 (FM_sumOf_46 (FM_sumOf_48n (by first | assumption | exact rfl) (by omega) (FM_sumOf_49 (FM_sumOf_50 (FM_sumOf_51 (FM_sumOf_54 ?_))))))))) (fun c29 => (FM_sumOf_32 (FM_sumOf_33 (FM_sumOf_36 (FM_sumOf_38n (by first | assumption | exact rfl) (by omega) (FM_sumOf_39 (FM_sumOf_49 (FM_sumOf_50 (FM_sumOf_51 (FM_sumOf_54 ?_))))))))))))) (fun c21 => (FM_sumOf_24 (FM_sumOf_25 (FM_sumOf_49 (FM_sumOf_50 (FM_sumOf_51 (FM_sumOf_54 ?_)))))))))))))))))))
    · rw [hK] at c11; exact absurd ((leN rfl rfl (by omega) (by omega)).mp c11) (by omega)
    · refine nx _ ?_
      rw [sO, if_pos (b01.mpr c21)]
      rw [if_neg (fun z => by rw [z] at c29; exact absurd c29 (by decide))]
    · refine nx _ ?_
      rw [sO, if_pos (b01.mpr c21)]
      rw [if_pos (hy.resolve_left c29)]
    · refine nx _ ?_
      rw [sO, if_neg (fun z => (b01.mp z) c21), Int32.add_zero]
theorem FM_sumOf_c {y : Int32} (hy : y = 0 ∨ y = 1) (hK : h.1 57 36 = nI K) (h8 : K ≤ 8) (k : Q (sO (if y = 1 then h.1 85 else h.1 86) s K) h) : E X d FM_sumOf 0 [.ref 57, .int s, .int y, U0, U0] [] h Q := by
  refine (FM_sumOf_0 (FM_sumOf_1 (FM_sumOf_2 (FM_sumOf_3 ?_))))
  exact FM_sumOf_l hy hK h8 k K 0 (by omega)
theorem FM_many_l (k : Q (mcI s 12) h) : ∀ (m j : Nat), j + m = 12 → E X d FM_many 4 [.int s, .int (mcI s j), .int (nI j)] [] h Q := by
  intro m
  induction m with
  | zero =>
    intro j hj
    obtain rfl : j = 12 := by omega
    refine (FM_many_4 (FM_many_5 (FM_many_7 (fun c7 => (FM_many_24 (FM_many_25 ?_))) (fun c7 => ?_))))
    · exact k
    · exact absurd (Int32.le_refl _) c7
  | succ m ih =>
    intro j hj
    refine (FM_many_4 (FM_many_5 (FM_many_7 (fun c7 => (FM_many_24 (FM_many_25 ?_))) (fun c7 => (FM_many_10 (FM_many_11 (FM_many_12 (FM_many_13 (FM_many_14 (FM_many_15 (FM_many_16 (FM_many_17 (FM_many_18 (FM_many_21 ?_))))))))))))))
    · exact absurd ((leN (show (12 : Int32) = nI 12 from rfl) rfl (by omega) (by omega)).mp c7) (by omega)
    · rw [nI_1]
      exact ih (j + 1) (by omega)
theorem FM_many_c (k : Q (mcI s 12) h) : E X d FM_many 0 [.int s, U0, U0] [] h Q := by
  refine (FM_many_0 (FM_many_1 (FM_many_2 (FM_many_3 ?_))))
  exact FM_many_l k 12 0 (by omega)
theorem pw8 : ∀ K, K < 9 → (1 : Int32) <<< (nI K &&& 31) = nI (2 ^ K) := by decide +kernel
theorem pw_le {K : Nat} (h8 : K ≤ 8) : 2 ^ K ≤ 256 := by
  have : ∀ K, K < 9 → 2 ^ K ≤ 256 := by decide
  exact this K (by omega)
end FE
