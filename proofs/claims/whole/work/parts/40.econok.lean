section EK
variable {d c : Nat} {s : EC} {g wg kk : Int32}
theorem isN_add {x y : Int32} {a b : Nat} (h1 : isN x 0 a) (h2 : isN y 0 b) : isN (x + y) 0 (a + b) := by
  obtain ⟨i, -, i2, rfl⟩ := h1
  obtain ⟨j, -, j2, rfl⟩ := h2
  exact ⟨i + j, by omega, by omega, nI_add i j⟩
theorem isN_le {x : Int32} {a b : Nat} (h1 : isN x 0 a) (h : a ≤ b) : isN x 0 b := by
  obtain ⟨i, -, i2, rfl⟩ := h1
  exact ⟨i, by omega, by omega, rfl⟩
theorem isN_0 {b : Nat} : isN 0 0 b := ⟨0, by omega, by omega, rfl⟩
theorem isN_cap {x : Int32} {a : Nat} (h1 : isN x 0 a) (ha : a < 2 ^ 31) : isN (mn 99999 x) 0 99999 := by
  obtain ⟨i, -, i2, rfl⟩ := h1
  rw [show (99999 : Int32) = nI 99999 from rfl, mn_nI (by omega) (by omega)]
  exact ⟨_, by omega, by omega, rfl⟩
theorem eN_r (hk : eOk s d) (hw : isN wg 0 99) (hc : c < 3) : isN (eN s d kk wg c) 0 99900 := by
  obtain ⟨-, -, h3⟩ := hk
  obtain ⟨P, -, P2, e1⟩ := (h3 c hc).1
  obtain ⟨w, -, w2, rfl⟩ := hw
  have hm : P * w ≤ 999 * 99 := Nat.mul_le_mul P2 w2
  unfold eN
  rw [e1, pk_mul]
  refine isN_le (isN_add (a := 999) (b := 98901) ?_ ?_) (by omega)
  · split
    · exact ⟨P, by omega, P2, rfl⟩
    · exact isN_0
  · split
    · split
      · exact ⟨_, by omega, hm, rfl⟩
      · split
        · rw [show (2 : Int32) = nI 2 from rfl, pk_div (by omega) (by omega) (by omega)]
          exact ⟨_, by omega, by omega, rfl⟩
        · exact isN_0
    · exact isN_0
theorem ePay_ok (hk : eOk s d) (hw : isN wg 0 99) (hc : c < 3) : eOk (ePay s d kk wg c) d := by
  have hn := eN_r (kk := kk) hk hw hc
  obtain ⟨h1, h2, h3⟩ := hk
  refine ⟨?_, ?_, fun q hq => ⟨?_, ?_⟩⟩
  · show isN (up _ _ _ _) _ _
    rw [up_ne (by omega)]; exact h1
  · show isN (up _ _ _ _) _ _
    rw [up_ne (by omega)]; exact h2
  · show isN (up _ _ _ _) _ _
    rw [up_ne (by omega)]; exact (h3 q hq).1
  · show isN (up _ _ _ _) _ _
    by_cases z : q = c
    · subst z
      rw [up_at]
      exact isN_cap (isN_add (h3 q hq).2 hn) (by omega)
    · rw [up_ne (by omega)]; exact (h3 q hq).2
theorem eRem_ok (hk : eOk s d) : eOk (eRem s d kk) d := by
  unfold eRem
  split
  · obtain ⟨h1, h2, h3⟩ := hk
    refine ⟨?_, ?_, fun q hq => ⟨?_, ?_⟩⟩
    all_goals show isN (up _ _ _ _) _ _
    all_goals rw [up_ne (by omega)]
    · exact h1
    · exact h2
    · exact (h3 q hq).1
    · exact (h3 q hq).2
  · exact hk
theorem eLoan_ok (hk : eOk s d) : eOk (eLoan s d kk) d := by
  unfold eLoan
  split
  · obtain ⟨h1, h2, h3⟩ := hk
    obtain ⟨P, -, P2, e1⟩ := (h3 1 (by omega)).1
    refine ⟨?_, ?_, fun q hq => ⟨?_, ?_⟩⟩
    all_goals show isN (up (up _ _ _) _ _ _) _ _
    · rw [up_ne (by omega), up_ne (by omega)]; exact h1
    · rw [up_ne (by omega), up_ne (by omega)]; exact h2
    · rw [up_ne (by omega), up_ne (by omega)]; exact (h3 q hq).1
    · by_cases z : q = 1
      · subst z
        rw [up_at]
        refine isN_cap (isN_add (b := 2997) (h3 1 hq).2 ?_) (by omega)
        have e2 : s.1 (d * 15 + 3) = nI P := e1
        rw [e2, show (3 : Int32) = nI 3 from rfl, pk_mul]
        exact ⟨_, by omega, by omega, rfl⟩
      · rw [up_ne (by omega), up_ne (by omega)]; exact (h3 q hq).2
  · exact hk
theorem eIt_ok {N P : Nat} (hk : eOk s d) (hP : P ≤ 999) (hc : c < 3) (e1 : s.1 (d * 15 + (2 + c)) = nI P) (hN : N ≤ P) (eN : eNd s d c g = nI N) : eOk (eIt s d c g) d := by
  obtain ⟨⟨a, -, a2, ea⟩, ⟨p, p1, p2, ep⟩, h3⟩ := hk
  obtain ⟨C, -, C2, eC⟩ := (h3 c hc).2
  have et : eT s d c (nI N) = nI (min N (min a (C / p))) := by
    unfold eT
    rw [ea, eC, ep, pk_div (by omega) (by omega) (by omega), mn_nI (by omega) (by have := Nat.div_le_self C p; omega), mn_nI (by omega) (by omega)]
  have t1 : min N (min a (C / p)) ≤ N := Nat.min_le_left _ _
  have t2 : min N (min a (C / p)) ≤ a := Nat.le_trans (Nat.min_le_right _ _) (Nat.min_le_left _ _)
  have t3 : min N (min a (C / p)) * p ≤ C := by
    refine Nat.le_trans (Nat.mul_le_mul_right p (Nat.le_trans (Nat.min_le_right _ _) (Nat.min_le_right _ _))) ?_
    exact Nat.div_mul_le_self C p
  have em : eMs s d c g = nI (N - min N (min a (C / p))) := by
    unfold eMs
    rw [eN, et, pk_sub t1]
  unfold eIt
  rw [eN, et, em]
  generalize min N (min a (C / p)) = t at *
  refine ⟨?_, ?_, fun q hq => ⟨?_, ?_⟩⟩
  · simp only [eSuf, eBuy]
    rw [up_ne (by omega), up_ne (by omega), up_ne (by omega), up_ne (by omega), up_at, ea, pk_sub t2]
    exact ⟨_, by omega, by omega, rfl⟩
  · simp only [eSuf, eBuy]
    rw [up_ne (by omega), up_ne (by omega), up_ne (by omega), up_ne (by omega), up_ne (by omega)]
    exact ⟨p, p1, p2, ep⟩
  · simp only [eSuf, eBuy]
    by_cases z : q = c
    · subst z
      rw [up_at, up_ne (by omega), up_ne (by omega), e1, show (10 : Int32) = nI 10 from rfl, pk_div (by omega) (by omega) (by omega), pk_sub (by omega)]
      exact ⟨_, by omega, by omega, rfl⟩
    · rw [up_ne (by omega), up_ne (by omega), up_ne (by omega), up_ne (by omega), up_ne (by omega)]
      exact (h3 q hq).1
  · simp only [eSuf, eBuy]
    rw [up_ne (by omega), up_ne (by omega), up_ne (by omega)]
    by_cases z : q = c
    · subst z
      rw [up_at, eC, ep, pk_mul, pk_sub t3]
      exact ⟨_, by omega, by omega, rfl⟩
    · rw [up_ne (by omega), up_ne (by omega)]
      exact (h3 q hq).2
end EK
