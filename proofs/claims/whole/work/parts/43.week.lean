/-- the rows of signs and lines are alike -/
def sg (h h' : HH) : Prop := ∀ r, 66 ≤ r → r ≤ 79 → h'.1 r = h.1 r
theorem kn_cg {h h' : HH} (e : sg h h') {z : Int32} {p : Nat} : ∀ n, kn h' z p n = kn h z p n
  | 0 => rfl
  | n + 1 => by
    have hp : plc h' n = plc h n := plc_cg ⟨by rw [e 66 (by omega) (by omega)], by rw [e 67 (by omega) (by omega)], by rw [e 68 (by omega) (by omega)]⟩
    simp only [kn, hp, e 69 (by omega) (by omega), e 70 (by omega) (by omega), kn_cg e n]
theorem tB_cg {h h' : HH} (e : sg h h') (S dd c : Nat) (z : Int32) : tB h' S dd c z = tB h S dd c z := by
  have hv : ∀ pl sp, tv h' S pl z c sp = tv h S pl z c sp := fun pl sp => by
    funext i
    simp only [tv, kn_cg e]
  funext l
  simp only [tB, hv, e 72 (by omega) (by omega), e 73 (by omega) (by omega), e 74 (by omega) (by omega), e 75 (by omega) (by omega), e 76 (by omega) (by omega)]
theorem iF_cg {h h' : HH} (e : sg h h') (z : Int32) : iF h' z = iF h z := by
  funext l
  simp only [iF, e 78 (by omega) (by omega), e 79 (by omega) (by omega)]
/-- what is open in district d, by lines in force at f without g -/
def ob (h : HH) (S L : Nat) (f g : Int32) (c : Nat) (z : Int32) (d : Nat) : Int32 := kb (h.1 71) (oP h S d c z f g) L
theorem ob_cg {h h' : HH} (e : sg h h') (S L : Nat) (f g : Int32) (c : Nat) (z : Int32) (d : Nat) : ob h' S L f g c z d = ob h S L f g c z d := by
  unfold ob
  rw [e 71 (by omega) (by omega)]
  refine kb_cg L (fun i _ => ⟨?_, rfl⟩)
  simp only [oP, iF_cg e, tB_cg e, e 77 (by omega) (by omega)]
def wkS (o : Nat → Int32) (wg : Int32) (s : EC) : Nat → EC × Int32
  | 0 => (s, 0)
  | n + 1 => (eLive (wkS o wg s n).1 n (o n) wg, (wkS o wg s n).2 + eLack (wkS o wg s n).1 n (o n) wg)
def wkO (h : HH) (a w : Nat) (o : Nat → Int32) : Nat → HH
  | 0 => h
  | n + 1 => pI (wkO h a w o n) a (n * 60 + w) (o n)
theorem wkO_r {h : HH} {a w r : Nat} {o : Nat → Int32} (hr : r ≠ a) : ∀ n, (wkO h a w o n).1 r = h.1 r
  | 0 => rfl
  | n + 1 => by unfold wkO; rw [pI_r hr, wkO_r hr n]
theorem wkO_e {h h' : HH} {a b w k : Nat} {o : Nat → Int32} (e : h.1 a k = h'.1 b k) : ∀ n, (wkO h a w o n).1 a k = (wkO h' b w o n).1 b k
  | 0 => e
  | n + 1 => by
    unfold wkO
    simp only [pI1]
    rw [wkO_e e n]
theorem sC_row {h : HH} {o r : Nat} {s : EC} (h1 : r ≠ o) (h2 : r ≠ o + 1) : (sC h o s).1 r = h.1 r := by
  funext y
  simp [sC, h1, h2]
theorem sC_low {h : HH} {o j : Nat} {s : EC} (hj : j < 3) : (sC h o s).1 o j = h.1 o j := by
  simp only [sC]
  rw [if_neg (by omega), if_neg (by omega), if_neg (by omega), if_neg (by omega)]
theorem sC_po {h : HH} {o r k : Nat} {s : EC} {v : Int32} (h1 : r ≠ o) (h2 : r ≠ o + 1) : pI (sC h o s) r k v = sC (pI h r k v) o s := by
  refine Prod.ext ?_ rfl
  funext a b
  simp only [pI, sC]
  by_cases z : a = r
  · subst z; simp [h1, h2]
  · simp [z]
theorem sC_self (h : HH) (o : Nat) : sC h o (h.1 (o + 1), h.1 o 3, h.1 o 4, h.1 o 5) = h := by
  refine Prod.ext ?_ rfl
  funext a b
  simp only [sC]
  split
  · subst_vars; rfl
  · split
    · rename_i q; rw [q.1, q.2]
    · split
      · rename_i q; rw [q.1, q.2]
      · split
        · rename_i q; rw [q.1, q.2]
        · rfl
theorem ixM_none {x y : Nat} (hx : x < 58 ∨ 64 < x) : ixM x y = none := by
  unfold ixM
  rw [if_neg (by omega), if_neg (by omega), if_neg (by omega), if_neg (by omega), if_neg (by omega), if_neg (by omega), if_neg (by omega)]
theorem sM_row {h : HH} {r : Nat} {s : EC} (h1 : r < 57 ∨ 64 < r) : (sM h s).1 r = h.1 r := by
  funext y
  simp only [sM, ixM_none (show r < 58 ∨ 64 < r by omega)]
  rw [if_neg (by omega), if_neg (by omega), if_neg (by omega)]
theorem sM_57 {h : HH} {j : Nat} {s : EC} (hj : j < 12 ∨ 14 < j) : (sM h s).1 57 j = h.1 57 j := by
  simp only [sM, ix57]
  rw [if_neg (by omega), if_neg (by omega), if_neg (by omega)]
theorem sM_po {h : HH} {r k : Nat} {s : EC} {v : Int32} (h1 : r < 57 ∨ 64 < r) : pI (sM h s) r k v = sM (pI h r k v) s := by
  refine Prod.ext ?_ rfl
  funext a b
  simp only [pI, sM]
  by_cases z : a = r
  · subst z
    rw [ixM_none (by omega)]
    have e : ¬ a = 57 := by omega
    simp [e]
  · simp [z]
theorem sM_self {h : HH} {s : EC} (e1 : ∀ d, d < 6 → h.1 58 d = s.1 (d * 15 + 0) ∧ h.1 59 d = s.1 (d * 15 + 1) ∧ h.1 62 d = s.1 (d * 15 + 8)) (e2 : ∀ d c, d < 6 → c < 3 → h.1 60 (3 * d + c) = s.1 (d * 15 + (2 + c)) ∧ h.1 61 (3 * d + c) = s.1 (d * 15 + (5 + c)) ∧ h.1 63 (3 * d + c) = s.1 (d * 15 + (9 + c)) ∧ h.1 64 (3 * d + c) = s.1 (d * 15 + (12 + c))) (e3 : h.1 57 12 = s.2.1 ∧ h.1 57 13 = s.2.2.1 ∧ h.1 57 14 = s.2.2.2) : sM h s = h := by
  refine Prod.ext ?_ rfl
  funext a b
  have e2' : ∀ y, y < 18 → h.1 60 y = s.1 (y / 3 * 15 + (2 + y % 3)) ∧ h.1 61 y = s.1 (y / 3 * 15 + (5 + y % 3)) ∧ h.1 63 y = s.1 (y / 3 * 15 + (9 + y % 3)) ∧ h.1 64 y = s.1 (y / 3 * 15 + (12 + y % 3)) := fun y hy => by
    have := e2 (y / 3) (y % 3) (by omega) (by omega)
    rw [show 3 * (y / 3) + y % 3 = y by omega] at this
    exact this
  simp only [sM]
  cases w : ixM a b with
  | some i =>
    unfold ixM at w
    repeat' split at w
    all_goals simp only [Option.some.injEq, reduceCtorEq] at w
    all_goals (rename_i q; subst w; rw [q.1])
    · exact ((e1 b q.2).1).symm
    · exact ((e1 b q.2).2.1).symm
    · exact ((e2' b q.2).1).symm
    · exact ((e2' b q.2).2.1).symm
    · exact ((e1 b q.2).2.2).symm
    · exact ((e2' b q.2).2.2.1).symm
    · exact ((e2' b q.2).2.2.2).symm
  | none =>
    simp only
    split
    · rename_i q; rw [q.1, q.2]; exact e3.1.symm
    · split
      · rename_i q; rw [q.1, q.2]; exact e3.2.1.symm
      · split
        · rename_i q; rw [q.1, q.2]; exact e3.2.2.symm
        · rfl
theorem wkS_p {o : Nat → Int32} {wg : Int32} {s : EC} {D i : Nat} : ∀ n, n ≤ D → (∀ d, d < n → ∀ q, q < 15 → q ≠ 1 → i ≠ d * 15 + q) → (wkS o wg s n).1.1 i = s.1 i
  | 0, _, _ => rfl
  | n + 1, hn, hi => by
    show (eLive (wkS o wg s n).1 n (o n) wg).1 i = _
    rw [eLive_p (hi n (by omega)), wkS_p (D := D) n (by omega) (fun d hd => hi d (by omega))]
theorem wkS_ok {o : Nat → Int32} {wg : Int32} {s : EC} (hw : isN wg 0 99) {d : Nat} (hk : eOk s d) : ∀ n, eOk (wkS o wg s n).1 d
  | 0 => hk
  | n + 1 => by
    show eOk (eLive (wkS o wg s n).1 n (o n) wg) d
    have h0 := wkS_ok (o := o) hw hk n
    by_cases z : d = n
    · subst z
      exact eLive_ok h0 hw
    · obtain ⟨h1, h2, h3⟩ := h0
      have fr : ∀ q, q < 15 → (eLive (wkS o wg s n).1 n (o n) wg).1 (d * 15 + q) = (wkS o wg s n).1.1 (d * 15 + q) := fun q hq => eLive_p (fun r hr _ => by omega)
      refine ⟨by rw [fr 0 (by omega)]; exact h1, by rw [fr 1 (by omega)]; exact h2, fun c hc => ⟨by rw [fr (2 + c) (by omega)]; exact (h3 c hc).1, by rw [fr (5 + c) (by omega)]; exact (h3 c hc).2⟩⟩
