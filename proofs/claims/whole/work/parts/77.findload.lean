/-! the model's least load -/
section FA
variable {g D W : Nat} {f t : Nat → Nat} {p cp sp : Nat → Int} {n best : Int}
def OKc (f t : Nat → Nat) (cp sp : Nat → Int) (W D g : Nat) (p : Nat → Int) (n best : Int) : Prop := ∃ x z, Feas f t cp sp W D g x z n ∧ kc p W x = best
def ctc (c cp : Nat → Int) (w : Nat) (v : Int) (i : Nat) : Int := if i < w then c i else if i = w then v else cp i
theorem Feas_mono {cp' x z : Nat → Int} (h : ∀ w, w < W → cp w ≤ cp' w) (F : Feas f t cp sp W D g x z n) : Feas f t cp' sp W D g x z n :=
  ⟨fun w hw => by have := F.1 w hw; have := h w hw; omega, F.2⟩
theorem Feas_cap {cp' x z : Nat → Int} (h : ∀ w, w < W → x w ≤ cp' w) (F : Feas f t cp sp W D g x z n) : Feas f t cp' sp W D g x z n :=
  ⟨fun w hw => by have := F.1 w hw; have := h w hw; omega, F.2⟩
/-- the caps found so far are the least that allow the best price -/
def JJ (f t : Nat → Nat) (cp sp : Nat → Int) (W D g : Nat) (p : Nat → Int) (n best : Int) (w : Nat) (c : Nat → Int) : Prop :=
  (∀ i, i < w → 0 ≤ c i ∧ c i ≤ cp i) ∧ ∀ j, j < w → ∀ v, 0 ≤ v → v < c j → ¬ OKc f t (ctc c cp j v) sp W D g p n best
theorem fdiff {x y : Nat → Int} : ∀ W, (∀ w, w < W → x w = y w) ∨ ∃ w, w < W ∧ (∀ j, j < w → x j = y j) ∧ x w ≠ y w := by
  intro W
  induction W with
  | zero => exact Or.inl (fun w hw => absurd hw (by omega))
  | succ W ih =>
    rcases ih with h | ⟨w, h1, h2, h3⟩
    · by_cases z : x W = y W
      · left
        intro w hw
        by_cases y1 : w = W
        · rw [y1]; exact z
        · exact h w (by omega)
      · exact Or.inr ⟨W, by omega, h, z⟩
    · exact Or.inr ⟨w, by omega, h2, h3⟩
theorem lex_of {c y z : Nat → Int} (J : JJ f t cp sp W D g p n best W c) (F : Feas f t c sp W D g y z n) (e : kc p W y = best) (hb : ∀ x z, Feas f t cp sp W D g x z n → best ≤ kc p W x) : Feas f t cp sp W D g y z n ∧ LXo f t cp sp W D g p n y := by
  obtain ⟨J1, J2⟩ := J
  have F1 := F.1
  have yc : ∀ j, j < W → y j = c j := fun j hj => by
    have a1 := F1 j hj
    by_cases lt : y j < c j
    · refine absurd ⟨y, z, Feas_cap (fun i hi => ?_) F, e⟩ (J2 j hj (y j) a1.1 lt)
      have a2 := F1 i hi
      have a3 := J1 i hi
      unfold ctc
      by_cases u1 : i < j
      · rw [if_pos u1]; omega
      · rw [if_neg u1]
        by_cases u2 : i = j
        · rw [if_pos u2, u2]; omega
        · rw [if_neg u2]; omega
    · omega
  refine ⟨Feas_mono (fun w hw => (J1 w hw).2) F, fun x z' F' => ?_⟩
  have b := hb x z' F'
  by_cases lt : kc p W y < kc p W x
  · exact Or.inl lt
  · right
    refine ⟨by omega, ?_⟩
    rcases fdiff (x := x) (y := y) W with h | ⟨w, h1, h2, h3⟩
    · exact Or.inl h
    · right
      refine ⟨w, h1, h2, ?_⟩
      have f1 := F'.1 w h1
      have yw := yc w h1
      by_cases lt2 : x w < y w
      · refine absurd ⟨x, z', Feas_cap (fun i hi => ?_) F', by omega⟩ (J2 w h1 (x w) f1.1 (by omega))
        have a2 := F'.1 i hi
        unfold ctc
        by_cases u1 : i < w
        · have := h2 i u1
          have := yc i hi
          rw [if_pos u1]; omega
        · rw [if_neg u1]
          by_cases u2 : i = w
          · rw [if_pos u2, u2]; omega
          · rw [if_neg u2]; omega
      · omega
theorem kc_bd {x z : Nat → Int} (W12 : W ≤ 12) (hp : ∀ w, w < W → 0 ≤ p w ∧ p w ≤ 99) (hc : ∀ w, w < W → cp w ≤ 999) (F : Feas f t cp sp W D g x z n) : 0 ≤ kc p W x ∧ kc p W x ≤ 1186812 := by
  have F1 := F.1
  have : ∀ m, m ≤ W → 0 ≤ smI (fun w => p w * x w) m ∧ smI (fun w => p w * x w) m ≤ 98901 * (m : Int) := fun m => by
    induction m with
    | zero => intro _; exact ⟨Int.le_refl _, by show (0 : Int) ≤ 98901 * ((0 : Nat) : Int); omega⟩
    | succ m ih =>
      intro hm
      obtain ⟨i1, i2⟩ := ih (by omega)
      have a1 := F1 m (by omega)
      have a2 := hp m (by omega)
      have a3 := hc m (by omega)
      have b1 : 0 ≤ p m * x m := Int.mul_nonneg a2.1 a1.1
      have b2 : p m * x m ≤ 99 * 999 := Int.mul_le_mul a2.2 (by omega) a1.1 (by omega)
      show 0 ≤ smI (fun w => p w * x w) m + p m * x m ∧ smI (fun w => p w * x w) m + p m * x m ≤ 98901 * ((m + 1 : Nat) : Int)
      omega
  have := this W (Nat.le_refl _)
  unfold kc
  omega
theorem ofI_b {a b : Int} (ha : 0 ≤ a) (ha2 : a ≤ 2000000000) (hb : 0 ≤ b) (hb2 : b ≤ 2000000000) (e : Int32.ofInt a = Int32.ofInt b) : a = b := by
  have e1 : (Int32.ofInt a).toInt = a := Int32.toInt_ofInt_of_le (by omega) (by omega)
  have e2 : (Int32.ofInt b).toInt = b := Int32.toInt_ofInt_of_le (by omega) (by omega)
  rw [← e1, ← e2, e]
end FA
section FB
variable {X : SX} {d g D W keep : Nat} {h : HH} {Q : Int32 → HH → Prop} {f t : Nat → Nat} {p cp sp : Nat → Int} {best : Int}
theorem flow_k {cc : Nat → Int} {n : Nat} {bst : Int32} (M : MdH h f t p W D g) (St : MdS h sp D g keep) (c87 : ∀ w, w < W → (h.1 87 w).toInt = cc w ∧ 0 ≤ cc w ∧ cc w ≤ cp w) (hcp : ∀ w, w < W → cp w ≤ 999) (hn : n ≤ 9999) (hb : ∀ x z, Feas f t cp sp W D g x z n → best ≤ kc p W x) (b0 : 0 ≤ best) (b1 : best ≤ 1186812) (e : bst = Int32.ofInt best)
    (K : ∀ H r, frL h H → (r = bst ↔ OKc f t cc sp W D g p n best) → Q r H) : E X (d + 2) FM_flow 0 [.ref 57, .int (nI g), .int (nI n), .int (nI keep), U0, U0, U0] [] h Q := by
  have hp : ∀ w, w < W → 0 ≤ p w ∧ p w ≤ 99 := fun w hw => by have := M.2.2.2.2.2 w hw; omega
  refine flow_c M St (fun w hw => ⟨(c87 w hw).1, (c87 w hw).2.1, by have := c87 w hw; have := hcp w hw; omega⟩) hn (fun H x z fr F mi _ => K H _ fr ⟨fun z1 => ?_, fun ⟨x', z', F', e'⟩ => ?_⟩) (fun H fr no => K H _ fr ⟨fun z1 => ?_, fun ⟨x', z', F', e'⟩ => absurd F' (no x' z')⟩)
  · have F2 : Feas f t cp sp W D g x z n := Feas_mono (fun w hw => (c87 w hw).2.2) F
    obtain ⟨k1, k2⟩ := kc_bd M.1 hp hcp F2
    rw [e] at z1
    exact ⟨x, z, F, ofI_b k1 (by omega) b0 (by omega) z1⟩
  · have F2 : Feas f t cp sp W D g x z n := Feas_mono (fun w hw => (c87 w hw).2.2) F
    have y1 := hb x z F2
    have y2 := mi x' z' F'
    rw [e]
    congr 1
    omega
  · rw [e] at z1
    exact absurd (ofI_b (by omega) (by omega) b0 (by omega) (show Int32.ofInt 1000000000 = Int32.ofInt best from z1)) (by omega)
def frK (h H : HH) : Prop := (∀ r, r ≠ 87 → r ≠ 88 → r ≠ 89 → r ≠ 90 → r ≠ 91 → H.1 r = h.1 r) ∧ H.2 = h.2
theorem frK_L {a b c : HH} (h1 : frK a b) (h2 : frL b c) : frK a c := ⟨fun r x1 x2 x3 x4 x5 => (h2.1 r x2 x3 x4 x5).trans (h1.1 r x1 x2 x3 x4 x5), h2.2.trans h1.2⟩
theorem frK_p {a b : HH} {w : Nat} {v : Int32} (h1 : frK a b) : frK a (pI b 87 w v) := ⟨fun r x1 x2 x3 x4 x5 => by rw [pI_r x1]; exact h1.1 r x1 x2 x3 x4 x5, h1.2⟩
theorem MdS_cg {H : HH} (M : MdS h sp D g keep) (fr : frK h H) : MdS H sp D g keep := by
  unfold MdS
  rw [fr.1 58 (by omega) (by omega) (by omega) (by omega) (by omega)]
  exact M
def FL0 (h H : HH) (n : Nat) : Prop := (∀ r, r ≠ 87 → H.1 r = h.1 r) ∧ H.2 = h.2 ∧ ∀ v, v < n → H.1 87 v = h.1 82 v
theorem findLoad_1 {a1 a2 a3 : Int32} {a5 a6 a7 : Value} (hW : h.1 57 31 = nI W) (W12 : W ≤ 12) (K : ∀ H, FL0 h H W → E X d FM_findLoad 32 [.ref 57, .int a1, .int a2, .int a3, .int (nI W), a5, a6, a7] [] H Q) : ∀ (n w : Nat) (H : HH), w + n = W → FL0 h H w → E X d FM_findLoad 3 [.ref 57, .int a1, .int a2, .int a3, .int (nI w), a5, a6, a7] [] H Q := by
  intro n
  induction n with
  | zero =>
    intro w H hw I
    obtain rfl : w = W := by omega
    have x1 : H.1 57 31 = nI w := by rw [I.1 57 (by omega)]; exact hW
    refine (FM_findLoad_3 (FM_findLoad_5 (FM_findLoad_6 (FM_findLoad_9 (fun c9 => ?_) (fun c9 => ?_)))))
    · exact K H I
    · rw [x1] at c9; exact absurd (Int32.le_refl _) c9
  | succ n ih =>
    intro w H hw I
    have x1 : H.1 57 31 = nI W := by rw [I.1 57 (by omega)]; exact hW
    refine (FM_findLoad_3 (FM_findLoad_5 (FM_findLoad_6 (FM_findLoad_9 (fun c9 => ?_) (fun c9 => (FM_findLoad_12 (FM_findLoad_13 (FM_findLoad_16 (FM_findLoad_18 (FM_findLoad_19 (FM_findLoad_22 (FM_findLoad_24n (by first | assumption | exact rfl) (by omega) (FM_findLoad_25n (by first | assumption | exact rfl) (by omega) (FM_findLoad_26 (FM_findLoad_29 ?_)))))))))))))))
    · rw [x1] at c9; exact absurd ((leN rfl rfl (by omega) (by omega)).mp c9) (by omega)
    · rw [nI_1]
      obtain ⟨i1, i2, i3⟩ := I
      refine ih (w + 1) _ (by omega) ⟨fun r a => by rw [pI_r a]; exact i1 r a, i2, fun v hv => ?_⟩
      simp only [pI1, true_and]
      by_cases z : v = w
      · subst z; rw [if_pos rfl, i1 82 (by omega)]
      · rw [if_neg z]; exact i3 v (by omega)
/-- the search for one cap, at pc 77 -/
theorem findLoad_i {n w : Nat} {bst : Int32} {c : Nat → Int} {hi0 : Nat} (M : MdH h f t p W D g) (St : MdS h sp D g keep) (hcp : ∀ w, w < W → 0 ≤ cp w ∧ cp w ≤ 999) (hn : n ≤ 9999) (hb : ∀ x z, Feas f t cp sp W D g x z n → best ≤ kc p W x) (b0 : 0 ≤ best) (b1 : best ≤ 1186812) (e : bst = Int32.ofInt best) (hw : w < W) (hc : ∀ i, i < w → 0 ≤ c i ∧ c i ≤ cp i) (h0 : (hi0 : Int) ≤ cp w)
    (K : ∀ (H : HH) (lo : Nat) (a7 : Value), frK h H → (∀ i, i < W → i ≠ w → (H.1 87 i).toInt = if i < w then c i else cp i) → (lo : Int) ≤ cp w → H.1 87 w = nI lo → OKc f t (ctc c cp w lo) sp W D g p n best → (∀ v : Int, 0 ≤ v → v < lo → ¬ OKc f t (ctc c cp w v) sp W D g p n best) → E X (d + 3) FM_findLoad 56 [.ref 57, .int (nI g), .int (nI n), .int (nI keep), .int bst, .int (nI (w + 1)), .int (nI lo), a7] [] H Q) :
    ∀ (m lo hi : Nat) (H : HH), hi - lo ≤ m → lo ≤ hi → hi ≤ hi0 → frK h H → (∀ i, i < W → i ≠ w → (H.1 87 i).toInt = if i < w then c i else cp i) → OKc f t (ctc c cp w hi) sp W D g p n best → (∀ v : Int, 0 ≤ v → v < lo → ¬ OKc f t (ctc c cp w v) sp W D g p n best) → E X (d + 3) FM_findLoad 77 [.ref 57, .int (nI g), .int (nI n), .int (nI keep), .int bst, .int (nI w), .int (nI lo), .int (nI hi)] [] H Q := by
  have W12 := M.1
  have cw := hcp w hw
  intro m
  induction m with
  | zero =>
    intro lo hi H hm hl hh fr cr ok no
    obtain rfl : lo = hi := by omega
    refine (FM_findLoad_77 (FM_findLoad_79 (FM_findLoad_81 (fun c81 => ?_) (fun c81 => (FM_findLoad_84 (FM_findLoad_85 (FM_findLoad_88 (FM_findLoad_90 (FM_findLoad_92 (FM_findLoad_94 (FM_findLoad_95 (FM_findLoad_96 (by decide) (FM_findLoad_97n (by first | assumption | exact rfl) (by omega) (FM_findLoad_98 (FM_findLoad_99 (FM_findLoad_100 (FM_findLoad_101 (FM_findLoad_102 (Nat.le_of_ble_eq_true rfl) ?_))))))))))))))))))
    · refine (FM_findLoad_136 (FM_findLoad_137 (FM_findLoad_140 (FM_findLoad_142 (FM_findLoad_144n (by first | assumption | exact rfl) (by omega) (FM_findLoad_145 (FM_findLoad_148 ?_)))))))
      rw [nI_1]
      refine K _ lo _ (frK_p fr) (fun i hi ne => ?_) (by omega) ?_ ok no
      · simp only [pI1, true_and]
        rw [if_neg ne]; exact cr i hi ne
      · exact if_pos ⟨rfl, rfl⟩
    · exact absurd (Int32.le_refl _) c81
  | succ m ih =>
    intro lo hi H hm hl hh fr cr ok no
    refine (FM_findLoad_77 (FM_findLoad_79 (FM_findLoad_81 (fun c81 => ?_) (fun c81 => (FM_findLoad_84 (FM_findLoad_85 (FM_findLoad_88 (FM_findLoad_90 (FM_findLoad_92 (FM_findLoad_94 (FM_findLoad_95 (FM_findLoad_96 (by decide) (FM_findLoad_97n (by first | assumption | exact rfl) (by omega) (FM_findLoad_98 (FM_findLoad_99 (FM_findLoad_100 (FM_findLoad_101 (FM_findLoad_102 (Nat.le_of_ble_eq_true rfl) ?_))))))))))))))))))
    · have q : hi ≤ lo := (leN rfl rfl (by omega) (by omega)).mp c81
      obtain rfl : lo = hi := by omega
      refine (FM_findLoad_136 (FM_findLoad_137 (FM_findLoad_140 (FM_findLoad_142 (FM_findLoad_144n (by first | assumption | exact rfl) (by omega) (FM_findLoad_145 (FM_findLoad_148 ?_)))))))
      rw [nI_1]
      refine K _ lo _ (frK_p fr) (fun i hi ne => ?_) (by omega) ?_ ok no
      · simp only [pI1, true_and]
        rw [if_neg ne]; exact cr i hi ne
      · exact if_pos ⟨rfl, rfl⟩
    · have q : ¬ hi ≤ lo := fun y => c81 ((leN rfl rfl (by omega) (by omega)).mpr y)
      rw [nI_add, show (2 : Int32) = nI 2 from rfl, pk_div (by omega) (by omega) (by omega)]
      generalize hmid : (lo + hi) / 2 = mid
      have m1 : lo ≤ mid := by omega
      have m2 : mid < hi := by omega
      have fr1 : frK h (pI H 87 w (nI mid)) := frK_p fr
      have ccw : ctc c cp w mid w = mid := by unfold ctc; rw [if_neg (by omega), if_pos rfl]
      refine flow_k (cp := cp) (cc := ctc c cp w mid) (best := best) (bst := bst) (MdH_cg M fr1.1) (MdS_cg St fr1) (fun i hi => ?_) (fun w hw => (hcp w hw).2) hn hb b0 b1 e (fun H' r fr' iff => ?_)
      · simp only [pI1, true_and]
        by_cases ne : i = w
        · subst ne
          rw [if_pos rfl, ccw, nI_toInt (by omega)]
          omega
        · rw [if_neg ne, cr i hi ne]
          have y := hcp i hi
          unfold ctc
          by_cases u1 : i < w
          · have y2 := hc i u1
            rw [if_pos u1, if_pos u1]; omega
          · rw [if_neg u1, if_neg u1, if_neg ne]; omega
      · have x87 : H'.1 87 = (pI H 87 w (nI mid)).1 87 := fr'.1 87 (by omega) (by omega) (by omega) (by omega)
        have xw : H'.1 87 w = nI mid := by rw [x87]; exact if_pos ⟨rfl, rfl⟩
        have cr' : ∀ i, i < W → i ≠ w → (H'.1 87 i).toInt = if i < w then c i else cp i := fun i hi ne => by
          rw [x87]
          simp only [pI1, true_and]
          rw [if_neg ne]; exact cr i hi ne
        have frk := frK_L fr1 fr'
        refine (FM_findLoad_105 (FM_findLoad_107 (fun c107 => (FM_findLoad_122 (FM_findLoad_123 (FM_findLoad_126 (FM_findLoad_128n (by first | assumption | exact rfl) (by omega) (FM_findLoad_129 (FM_findLoad_130 (FM_findLoad_131 (FM_findLoad_133 ?_))))))))) (fun c107 => (FM_findLoad_110 (FM_findLoad_111 (FM_findLoad_114 (FM_findLoad_116n (by first | assumption | exact rfl) (by omega) (FM_findLoad_117 (FM_findLoad_119 ?_)))))))))
        · rw [xw, nI_1]
          refine ih (mid + 1) hi H' (by omega) (by omega) hh frk cr' ok (fun v v0 vl okv => c107 (iff.mpr ?_))
          obtain ⟨x, z, F, ek⟩ := okv
          refine ⟨x, z, Feas_mono (fun i hi => ?_) F, ek⟩
          unfold ctc
          by_cases u1 : i < w
          · rw [if_pos u1, if_pos u1]; exact Int.le_refl _
          · rw [if_neg u1, if_neg u1]
            by_cases u2 : i = w
            · rw [if_pos u2, if_pos u2]; omega
            · rw [if_neg u2, if_neg u2]; exact Int.le_refl _
        · rw [xw]
          exact ih lo mid H' (by omega) (by omega) (by omega) frk cr' (iff.mp c107) no
theorem findLoad_o {n : Nat} {bst : Int32} (M : MdH h f t p W D g) (St : MdS h sp D g keep) (hcp : ∀ w, w < W → 0 ≤ cp w ∧ cp w ≤ 999) (hn : n ≤ 9999) (hb : ∀ x z, Feas f t cp sp W D g x z n → best ≤ kc p W x) (b0 : 0 ≤ best) (b1 : best ≤ 1186812) (e : bst = Int32.ofInt best)
    (K : ∀ (H : HH) (y z : Nat → Int), frK h H → Feas f t cp sp W D g y z n → LXo f t cp sp W D g p n y → (∀ w, w < W → (H.1 88 w).toInt = y w) → Q (Int32.ofInt (kc p W y)) H) :
    ∀ (m w : Nat) (H : HH) (c : Nat → Int) (a6 a7 : Value), w + m = W → frK h H → (∀ i, i < W → (H.1 87 i).toInt = if i < w then c i else cp i) → OKc f t (fun i => if i < w then c i else cp i) sp W D g p n best → JJ f t cp sp W D g p n best w c → E X (d + 3) FM_findLoad 56 [.ref 57, .int (nI g), .int (nI n), .int (nI keep), .int bst, .int (nI w), a6, a7] [] H Q := by
  have W12 := M.1
  have hp : ∀ w, w < W → 0 ≤ p w ∧ p w ≤ 99 := fun w hw => by have := M.2.2.2.2.2 w hw; omega
  intro m
  induction m with
  | zero =>
    intro w H c a6 a7 hw fr cr ok J
    obtain rfl : w = W := by omega
    have x1 : H.1 57 31 = nI w := by rw [fr.1 57 (by omega) (by omega) (by omega) (by omega) (by omega)]; exact M.2.2.2.1
    refine (FM_findLoad_56 (FM_findLoad_58 (FM_findLoad_59 (FM_findLoad_62 (fun c62 => ?_) (fun c62 => ?_)))))
    · refine (FM_findLoad_151 (FM_findLoad_152 (FM_findLoad_153 (FM_findLoad_154 (FM_findLoad_155 (Nat.le_of_ble_eq_true rfl) ?_)))))
      obtain ⟨x0, z0, F0, e0⟩ := ok
      have F0' : Feas f t c sp w D g x0 z0 n := Feas_mono (fun i hi => by rw [if_pos hi]; exact Int.le_refl _) F0
      refine flow_c (cp := c) (MdH_cg M fr.1) (MdS_cg St fr) (fun i hi => ?_) hn (fun H' y z fr' F mi tn => ?_) (fun H' fr' no => absurd F0' (no x0 z0))
      · have := cr i hi
        rw [if_pos hi] at this
        have y1 := J.1 i hi
        have y2 := hcp i hi
        omega
      · have F2 : Feas f t cp sp w D g y z n := Feas_mono (fun i hi => (J.1 i hi).2) F
        have y1 := hb y z F2
        have y2 := mi x0 z0 F0'
        obtain ⟨L1, L2⟩ := lex_of J F (by omega) hb
        refine (FM_findLoad_158 ?_)
        exact K H' y z (frK_L fr fr') L1 L2 tn
    · rw [x1] at c62; exact absurd (Int32.le_refl _) c62
  | succ m ih =>
    intro w H c a6 a7 hw fr cr ok J
    have hwW : w < W := by omega
    have x1 : H.1 57 31 = nI W := by rw [fr.1 57 (by omega) (by omega) (by omega) (by omega) (by omega)]; exact M.2.2.2.1
    have cw := hcp w hwW
    refine (FM_findLoad_56 (FM_findLoad_58 (FM_findLoad_59 (FM_findLoad_62 (fun c62 => ?_) (fun c62 => (FM_findLoad_65 (FM_findLoad_66 (FM_findLoad_68 (FM_findLoad_69 (FM_findLoad_72 (FM_findLoad_74n (by first | assumption | exact rfl) (by omega) (FM_findLoad_75 ?_))))))))))))
    · rw [x1] at c62; exact absurd ((leN rfl rfl (by omega) (by omega)).mp c62) (by omega)
    · have q : (H.1 87 w).toInt = cp w := by rw [cr w hwW, if_neg (by omega)]
      have hq : H.1 87 w = nI (cp w).toNat := by rw [← q]; exact nI_ofq (by omega)
      rw [hq]
      refine findLoad_i (hi0 := (cp w).toNat) (c := c) M St hcp hn hb b0 b1 e hwW J.1 (by omega) (fun H' lo a7 fr' cr' lc xl okl nol => ?_) ((cp w).toNat - 0) 0 (cp w).toNat H (by omega) (by omega) (Nat.le_refl _) fr (fun i hi ne => cr i hi) ?_ (fun v v0 vl => absurd vl (by omega))
      · refine ih (w + 1) H' (uq c w lo) _ _ (by omega) fr' (fun i hi => ?_) ?_ ⟨fun i hi => ?_, fun j hj v v0 vl => ?_⟩
        · by_cases u1 : i = w
          · subst u1
            rw [if_pos (by omega), uq_at, xl, nI_toInt (by omega)]
          · rw [cr' i hi u1, uq_ne u1]
            by_cases u2 : i < w
            · rw [if_pos u2, if_pos (by omega)]
            · rw [if_neg u2, if_neg (by omega)]
        · obtain ⟨x0, z0, F0, e0⟩ := okl
          refine ⟨x0, z0, Feas_mono (fun i hi => ?_) F0, e0⟩
          unfold ctc
          by_cases u1 : i = w
          · subst u1
            rw [if_neg (by omega), if_pos rfl, if_pos (by omega), uq_at]; exact Int.le_refl _
          · rw [uq_ne u1, if_neg u1]
            by_cases u2 : i < w
            · rw [if_pos u2, if_pos (by omega)]; exact Int.le_refl _
            · rw [if_neg u2, if_neg (by omega)]; exact Int.le_refl _
        · by_cases u1 : i = w
          · subst u1
            rw [uq_at]; omega
          · rw [uq_ne u1]; exact J.1 i (by omega)
        · have ce : ctc (uq c w lo) cp j v = ctc c cp j v := by
            funext i
            unfold ctc
            by_cases u1 : i < j
            · rw [if_pos u1, if_pos u1, uq_ne (by omega)]
            · rw [if_neg u1, if_neg u1]
          rw [ce]
          by_cases u1 : j = w
          · subst u1
            rw [uq_at] at vl
            exact nol v v0 vl
          · rw [uq_ne u1] at vl
            exact J.2 j (by omega) v v0 vl
      · obtain ⟨x0, z0, F0, e0⟩ := ok
        refine ⟨x0, z0, Feas_mono (fun i hi => ?_) F0, e0⟩
        unfold ctc
        by_cases u2 : i < w
        · rw [if_pos u2, if_pos u2]; exact Int.le_refl _
        · rw [if_neg u2, if_neg u2]
          by_cases u1 : i = w
          · subst u1
            rw [if_pos rfl]; omega
          · rw [if_neg u1]; exact Int.le_refl _
theorem findLoad_c {n : Nat} (M : MdH h f t p W D g) (St : MdS h sp D g keep) (c82 : ∀ w, w < W → (h.1 82 w).toInt = cp w ∧ 0 ≤ cp w ∧ cp w ≤ 999) (hn : n ≤ 9999)
    (K1 : ∀ (H : HH) (y z : Nat → Int), frK h H → Feas f t cp sp W D g y z n → LXo f t cp sp W D g p n y → (∀ w, w < W → (H.1 88 w).toInt = y w) → Q (Int32.ofInt (kc p W y)) H)
    (K0 : ∀ H, frK h H → (∀ x z, ¬ Feas f t cp sp W D g x z n) → Q 1000000000 H) :
    E X (d + 3) FM_findLoad 0 [.ref 57, .int (nI g), .int (nI n), .int (nI keep), U0, U0, U0, U0] [] h Q := by
  have W12 := M.1
  have hp : ∀ w, w < W → 0 ≤ p w ∧ p w ≤ 99 := fun w hw => by have := M.2.2.2.2.2 w hw; omega
  refine (FM_findLoad_0 (FM_findLoad_1 ?_))
  refine findLoad_1 M.2.2.2.1 W12 (fun H I => ?_) W 0 h (by omega) ⟨fun _ _ => rfl, rfl, fun v hv => absurd hv (by omega)⟩
  have fr : frK h H := ⟨fun r a _ _ _ _ => I.1 r a, I.2.1⟩
  have c87 : ∀ w, w < W → (H.1 87 w).toInt = cp w ∧ 0 ≤ cp w ∧ cp w ≤ 999 := fun w hw => by rw [I.2.2 w hw]; exact c82 w hw
  refine (FM_findLoad_32 (FM_findLoad_33 (FM_findLoad_34 (FM_findLoad_35 (FM_findLoad_36 (Nat.le_of_ble_eq_true rfl) ?_)))))
  refine flow_c (cp := cp) (MdH_cg M fr.1) (MdS_cg St fr) c87 hn (fun H' y z fr' F mi tn => ?_) (fun H' fr' no => ?_)
  · obtain ⟨k1, k2⟩ := kc_bd W12 hp (fun w hw => (c82 w hw).2.2) F
    refine (FM_findLoad_39 (FM_findLoad_41 (FM_findLoad_43 (FM_findLoad_46 (fun c46 => (FM_findLoad_53 (FM_findLoad_54 ?_))) (fun c46 => (FM_findLoad_49 (FM_findLoad_52 ?_)))))))
    · refine findLoad_o (best := kc p W y) M St (fun w hw => (c82 w hw).2) hn mi k1 k2 rfl K1 W 0 H' cp _ _ (by omega) (frK_L fr fr') (fun i hi => ?_) ⟨y, z, Feas_mono (fun i hi => by rw [ite_self]; exact Int.le_refl _) F, rfl⟩ ⟨fun i hi => absurd hi (by omega), fun j hj => absurd hj (by omega)⟩
      rw [ite_self, fr'.1 87 (by omega) (by omega) (by omega) (by omega)]
      exact (c87 i hi).1
    · exact absurd (ofI_b k1 (by omega) (by omega) (by omega) (show Int32.ofInt (kc p W y) = Int32.ofInt 1000000000 from c46)) (by omega)
  · refine (FM_findLoad_39 (FM_findLoad_41 (FM_findLoad_43 (FM_findLoad_46 (fun c46 => (FM_findLoad_53 (FM_findLoad_54 ?_))) (fun c46 => (FM_findLoad_49 (FM_findLoad_52 ?_)))))))
    · exact absurd rfl c46
    · exact K0 H' (frK_L fr fr') no
end FB
