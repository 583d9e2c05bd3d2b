def dec6 (P1 P2 P3 P4 P5 P6 : Prop) (k : Nat) : Prop := (¬ P1 ∧ k = 1) ∨ (P1 ∧ ¬ P2 ∧ k = 2) ∨ (P1 ∧ P2 ∧ P3 ∧ k = 10) ∨ (P1 ∧ P2 ∧ ¬ P3 ∧ ¬ P4 ∧ k = 11) ∨ (P1 ∧ P2 ∧ ¬ P3 ∧ P4 ∧ ¬ P5 ∧ k = 12) ∨ (P1 ∧ P2 ∧ ¬ P3 ∧ P4 ∧ P5 ∧ ¬ P6 ∧ k = 3) ∨ (P1 ∧ P2 ∧ ¬ P3 ∧ P4 ∧ P5 ∧ P6 ∧ k = 0)
theorem dec6_f {P1 P2 P3 P4 P5 P6 : Prop} {k k' : Nat} (h1 : dec6 P1 P2 P3 P4 P5 P6 k) (h2 : dec6 P1 P2 P3 P4 P5 P6 k') : k = k' := by
  unfold dec6 at h1 h2
  by_cases q1 : P1 <;> by_cases q2 : P2 <;> by_cases q3 : P3 <;> by_cases q4 : P4 <;> by_cases q5 : P5 <;> by_cases q6 : P6 <;> simp [q1, q2, q3, q4, q5, q6] at h1 h2 <;> omega
section SP
variable (h : HH) (D w S : Nat) (a b c e i n : Int32)
def sP1 : Prop := isLt a D ∧ isN b 0 3 ∧ isN c 0 3 ∧ isN e 0 2 ∧ inI n 0 20 ∧ n ≤ nI (w + 1)
def sP5 : Prop := n ≤ 0 ∨ inI i 0 (h.1 105 c.toNatClampNeg - n)
def sP6 : Prop := ∀ I j : Nat, i = nI I → I + j < 40 → nI j < n → inI (h.1 106 (40 * c.toNatClampNeg + I + j)) (-99) 99
def sSt (k : Nat) : Prop := dec6 (sP1 D w a b c e n) (nI S + n ≤ 200) (h.1 104 c.toNatClampNeg = -1) (h.1 104 c.toNatClampNeg = e) (sP5 h c i n) (sP6 h c i n) k
end SP
/-- the class's rows after j signs of a row -/
def cS (h : HH) (S w q I o : Nat) : Nat → HH
  | 0 => h
  | j + 1 => pI (pI (pI (pI (pI (cS h S w q I o j) 5 (S + j) (h.1 56 (o + I + j))) 6 (S + j) (nI w)) 7 (S + j) ((cS h S w q I o j).1 8 (q * 61 + (w - j)))) 4 4 (nI (S + j + 1))) 8 (q * 61 + (w - j)) (nI (S + j + 1))
def mS (h : HH) (S w I o : Nat) (a b : Int32) : Nat → HH
  | 0 => h
  | j + 1 => pI (pI (pI (pI (pI (pI (mS h S w I o a b j) 66 (S + j) a) 67 (S + j) b) 68 (S + j) (nI (w - j))) 69 (S + j) (nI w)) 70 (S + j) (h.1 106 (o + I + j))) 57 15 (nI (S + j + 1))
theorem cS_r {h : HH} {S w q I o r : Nat} (hr : r < 4 ∨ 8 < r) : ∀ j, (cS h S w q I o j).1 r = h.1 r
  | 0 => rfl
  | j + 1 => by
    unfold cS
    rw [pI_r (by omega), pI_r (by omega), pI_r (by omega), pI_r (by omega), pI_r (by omega), cS_r hr j]
theorem mS_r {h : HH} {S w I o r : Nat} {a b : Int32} (hr : r < 57 ∨ (57 < r ∧ r < 66) ∨ 70 < r) : ∀ j, (mS h S w I o a b j).1 r = h.1 r
  | 0 => rfl
  | j + 1 => by
    unfold mS
    rw [pI_r (by omega), pI_r (by omega), pI_r (by omega), pI_r (by omega), pI_r (by omega), pI_r (by omega), mS_r hr j]
theorem mS_57 {h : HH} {S w I o k : Nat} {a b : Int32} (hk : k ≠ 15) : ∀ j, (mS h S w I o a b j).1 57 k = h.1 57 k
  | 0 => rfl
  | j + 1 => by
    unfold mS
    simp only [pI1, true_and]
    rw [if_neg hk, if_neg (by omega), if_neg (by omega), if_neg (by omega), if_neg (by omega), if_neg (by omega), mS_57 hk j]
theorem mS_cg {h h' : HH} {S w I o r : Nat} {a b : Int32} (e : h'.1 r = h.1 r) (e2 : h'.1 106 = h.1 106) (hr : r ≠ 57) : ∀ j, (mS h' S w I o a b j).1 r = (mS h S w I o a b j).1 r
  | 0 => e
  | j + 1 => by
    unfold mS
    funext y
    simp only [pI1, e2, mS_cg e e2 hr j]
theorem mS_big {h : HH} {S w I o x : Nat} {a b : Int32} {r : Nat} (hr : r ≠ 57) : ∀ j, (x < S ∨ S + j ≤ x) → (mS h S w I o a b j).1 r x = h.1 r x
  | 0, _ => rfl
  | j + 1, hx => by
    unfold mS
    simp only [pI1]
    rw [if_neg (by omega), if_neg (by omega), if_neg (by omega), if_neg (by omega), if_neg (by omega), if_neg (by omega), mS_big hr j (by omega)]
theorem iSigns_row {h : HH} {S w i0 b0 I o N : Nat} {a b : Int32} (ea : a = nI i0) (eb : b = nI b0) (hi : i0 < 6) (hb : b0 ≤ 3) (hw : w ≤ 60) (hN : N ≤ w + 1) (hS : S + N ≤ 200) (e56 : ∀ j, j < N → h.1 56 (o + I + j) = h.1 106 (o + I + j)) (hv : ∀ j, j < N → inI (h.1 106 (o + I + j)) (-99) 99) (H : iSigns h 4 S w) : ∀ j, j ≤ N → iSigns (mS (cS h S w (i0 * 4 + b0) I o j) S w I o a b j) 4 (S + j) w
  | 0, _ => H
  | j + 1, hj => by
    have ih := iSigns_row ea eb hi hb hw hN hS e56 hv H j (by omega)
    have f106 : ∀ k, (cS h S w (i0 * 4 + b0) I o k).1 106 = h.1 106 := fun k => cS_r (by omega) k
    have fm : ∀ r, 65 < r → r < 71 → (mS (cS h S w (i0 * 4 + b0) I o (j + 1)) S w I o a b j).1 r = (mS (cS h S w (i0 * 4 + b0) I o j) S w I o a b j).1 r := fun r h1 h2 => mS_cg (by rw [cS_r (by omega), cS_r (by omega)]) (by rw [f106, f106]) (by omega) j
    have lo : ∀ r k, r < 9 → (mS (cS h S w (i0 * 4 + b0) I o k) S w I o a b k).1 r = (cS h S w (i0 * 4 + b0) I o k).1 r := fun r k hr => mS_r (by omega) k
    refine iSigns_add (i := i0) (j := b0) (k := w - j) (a := a) (b := b) (c := nI (w - j)) (n := h.1 106 (o + I + j)) (h := mS (cS h S w (i0 * 4 + b0) I o j) S w I o a b j) (show S + j < 200 by omega) hw hi hb (by omega) ea eb rfl (hv j (by omega)) ?_ (fun x => ?_) (fun x => ?_) (fun x => ?_) (fun x => ?_) (fun x => ?_) (fun x => ?_) (fun x => ?_) (fun x => ?_) (fun x => ?_) ih
    · rw [lo 4 (j + 1) (by omega), cS]; simp [pI1]
    · rw [lo 5 (j + 1) (by omega), lo 5 j (by omega), ← e56 j (by omega), cS]; simp [pI1]
    · rw [lo 6 (j + 1) (by omega), lo 6 j (by omega), cS]; simp [pI1]
    · rw [lo 7 (j + 1) (by omega), lo 7 j (by omega), lo 8 j (by omega), cS]; simp [pI1]
    · rw [lo 8 (j + 1) (by omega), lo 8 j (by omega), cS]; simp [pI1]
    · rw [mS, ← fm 66 (by omega) (by omega)]; simp [pI1]
    · rw [mS, ← fm 67 (by omega) (by omega)]; simp [pI1]
    · rw [mS, ← fm 68 (by omega) (by omega)]; simp [pI1]
    · rw [mS, ← fm 69 (by omega) (by omega)]; simp [pI1]
    · rw [mS, ← fm 70 (by omega) (by omega), f106]; simp [pI1]
