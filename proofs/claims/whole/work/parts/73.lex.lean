/-! the class's load and the least one are the same -/
theorem php : ∀ (n : Nat) (u : Nat → Nat), (∀ i, i ≤ n → u i < n) → ∃ i j, i < j ∧ j ≤ n ∧ u i = u j := by
  intro n
  induction n with
  | zero => intro u h; exact absurd (h 0 (Nat.le_refl 0)) (by omega)
  | succ n ih =>
    intro u h
    by_cases c : ∃ i, i ≤ n ∧ u i = u (n + 1)
    · obtain ⟨i, h1, h2⟩ := c
      exact ⟨i, n + 1, by omega, Nat.le_refl _, h2⟩
    · have c' : ∀ i, i ≤ n → u i ≠ u (n + 1) := fun i h1 h2 => c ⟨i, h1, h2⟩
      have hn := h (n + 1) (Nat.le_refl _)
      obtain ⟨i, j, h1, h2, h3⟩ := ih (fun i => if u i = n then u (n + 1) else u i) (fun i hi => by
        have h1 := h i (by omega)
        have h2 := c' i hi
        show (if u i = n then u (n + 1) else u i) < n
        split <;> omega)
      have h4 := c' i (by omega)
      have h5 := c' j (by omega)
      refine ⟨i, j, h1, by omega, ?_⟩
      have h3 : (if u i = n then u (n + 1) else u i) = (if u j = n then u (n + 1) else u j) := h3
      by_cases y1 : u i = n
      · by_cases y2 : u j = n
        · omega
        · rw [if_pos y1, if_neg y2] at h3; omega
      · by_cases y2 : u j = n
        · rw [if_neg y1, if_pos y2] at h3; omega
        · rw [if_neg y1, if_neg y2] at h3; exact h3
theorem frep {u : Nat → Nat} : ∀ n, (∃ i j, i < j ∧ j ≤ n ∧ u i = u j) → ∃ i j, i < j ∧ u i = u j ∧ ∀ a b, a < b → b < j → u a ≠ u b := by
  intro n
  induction n with
  | zero =>
    rintro ⟨i, j, h1, h2, _⟩
    exact absurd h1 (by omega)
  | succ n ih =>
    rintro ⟨i, j, h1, h2, h3⟩
    by_cases c : ∃ i j, i < j ∧ j ≤ n ∧ u i = u j
    · exact ih c
    · exact ⟨i, j, h1, h3, fun a b h4 h5 h6 => c ⟨a, b, h4, by omega, h6⟩⟩
def itn (nx : Nat → Nat) (e0 : Nat) : Nat → Nat
  | 0 => e0
  | n + 1 => nx (itn nx e0 n)
def kx (q : Nat → Nat) (m w : Nat) : Int := smI (fun l => (if q l = w then 1 else 0) - (if q l = 12 + w then 1 else 0)) m
def kz (q : Nat → Nat) (m d : Nat) : Int := smI (fun l => (if q l = 24 + d then 1 else 0) - (if q l = 30 + d then 1 else 0)) m
theorem ct_one {q : Nat → Nat} {c : Nat} : ∀ m, (∀ a b, a < b → b < m → q a ≠ q b) → (smI (fun l => if q l = c then (1 : Int) else 0) m = 0 ∧ ∀ l, l < m → q l ≠ c) ∨ (smI (fun l => if q l = c then (1 : Int) else 0) m = 1 ∧ ∃ l, l < m ∧ q l = c) := by
  intro m
  induction m with
  | zero => intro _; exact Or.inl ⟨rfl, fun l hl => absurd hl (by omega)⟩
  | succ m ih =>
    intro inj
    have st : smI (fun l => if q l = c then (1 : Int) else 0) (m + 1) = smI (fun l => if q l = c then (1 : Int) else 0) m + (if q m = c then 1 else 0) := rfl
    rcases ih (fun a b h1 h2 => inj a b h1 (by omega)) with ⟨h1, h2⟩ | ⟨h1, l, h2, h3⟩
    · by_cases z : q m = c
      · right
        rw [st, h1, if_pos z]
        exact ⟨rfl, m, by omega, z⟩
      · left
        rw [st, h1, if_neg z]
        refine ⟨rfl, fun l hl => ?_⟩
        by_cases y : l = m
        · rw [y]; exact z
        · exact h2 l (by omega)
    · right
      have z : ¬ q m = c := fun z => inj l m h2 (by omega) (by rw [h3, z])
      rw [st, h1, if_neg z]
      exact ⟨rfl, l, by omega, h3⟩
section LXA
variable {f t : Nat → Nat} {k p cp sp : Nat → Int} {W D g : Nat} {dx dz : Nat → Int} {q : Nat → Nat}
theorem cA_lt (E : Ends f t W D g) {e : Nat} (a : cA W D dx dz e) : cT f t e < 7 := by
  obtain ⟨W12, D6, gD, en⟩ := E
  rcases a with ⟨w, w1, rfl, w3⟩ | ⟨w, w1, rfl, w3⟩ | ⟨d, d1, rfl, d3⟩ | ⟨d, d1, rfl, d3⟩
  · rw [cT_f (by omega)]; have := en _ w1; omega
  · rw [cT_b (by omega)]; have := en _ w1; omega
  · rw [cT_g (by omega)]; omega
  · rw [cT_h]; omega
theorem cA_1 (W12 : W ≤ 12) (D6 : D ≤ 6) {w : Nat} (h : w < 12) (a : cA W D dx dz w) : w < W ∧ 0 < dx w := by
  rcases a with ⟨w', w1, rfl, w3⟩ | ⟨w', w1, w2, w3⟩ | ⟨d, d1, d2, d3⟩ | ⟨d, d1, d2, d3⟩
  · exact ⟨w1, w3⟩
  · omega
  · omega
  · omega
theorem cA_2 (W12 : W ≤ 12) (D6 : D ≤ 6) {w : Nat} (h : w < 12) (a : cA W D dx dz (12 + w)) : w < W ∧ dx w < 0 := by
  rcases a with ⟨w', w1, w2, w3⟩ | ⟨w', w1, w2, w3⟩ | ⟨d, d1, d2, d3⟩ | ⟨d, d1, d2, d3⟩
  · omega
  · obtain rfl : w = w' := by omega
    exact ⟨w1, w3⟩
  · omega
  · omega
theorem cA_3 (W12 : W ≤ 12) (D6 : D ≤ 6) {w : Nat} (h : w < 6) (a : cA W D dx dz (24 + w)) : w < D ∧ 0 < dz w := by
  rcases a with ⟨w', w1, w2, w3⟩ | ⟨w', w1, w2, w3⟩ | ⟨d, d1, d2, d3⟩ | ⟨d, d1, d2, d3⟩
  · omega
  · omega
  · obtain rfl : w = d := by omega
    exact ⟨d1, d3⟩
  · omega
theorem cA_4 (W12 : W ≤ 12) (D6 : D ≤ 6) {w : Nat} (a : cA W D dx dz (30 + w)) : w < D ∧ dz w < 0 := by
  rcases a with ⟨w', w1, w2, w3⟩ | ⟨w', w1, w2, w3⟩ | ⟨d, d1, d2, d3⟩ | ⟨d, d1, d2, d3⟩
  · omega
  · omega
  · omega
  · obtain rfl : w = d := by omega
    exact ⟨d1, d3⟩
/-- a simple circle -/
def Circ (f t : Nat → Nat) (W D : Nat) (dx dz : Nat → Int) (q : Nat → Nat) (m : Nat) : Prop :=
  0 < m ∧ (∀ l, cA W D dx dz (q l)) ∧ (∀ l, cT f t (q (l + 1)) = cH f t (q l)) ∧ cT f t (q m) = cT f t (q 0) ∧ ∀ a b, a < b → b < m → cT f t (q a) ≠ cT f t (q b)
theorem cy_ex (E : Ends f t W D g) (b : ∀ d, d < D → nt f t W dx dz d = 0) (s : smI dz D = 0) {e0 : Nat} (a : cA W D dx dz e0) : ∃ (q : Nat → Nat) (m : Nat), Circ f t W D dx dz q m := by
  obtain ⟨nx, hn⟩ := Classical.axiomOfChoice (r := fun e e' => cA W D dx dz e → cA W D dx dz e' ∧ cT f t e' = cH f t e) (fun e => by
    by_cases c : cA W D dx dz e
    · obtain ⟨e', h1, h2⟩ := cy_out E b s c
      exact ⟨e', fun _ => ⟨h1, h2⟩⟩
    · exact ⟨0, fun z => absurd z c⟩)
  have act : ∀ l, cA W D dx dz (itn nx e0 l) := fun l => by
    induction l with
    | zero => exact a
    | succ l ih => exact (hn _ ih).1
  have lnk : ∀ l, cT f t (itn nx e0 (l + 1)) = cH f t (itn nx e0 l) := fun l => (hn _ (act l)).2
  obtain ⟨i, j, h1, h2, h3⟩ := frep (u := fun l => cT f t (itn nx e0 l)) 7 (php 7 _ (fun i _ => cA_lt E (act i)))
  refine ⟨fun l => itn nx e0 (i + l), j - i, by omega, fun l => act _, fun l => lnk _, ?_, fun x y h4 h5 => h3 _ _ (by omega) (by omega)⟩
  show cT f t (itn nx e0 (i + (j - i))) = cT f t (itn nx e0 (i + 0))
  rw [show i + (j - i) = j by omega]
  exact h2.symm
theorem kx_cs (W12 : W ≤ 12) (D6 : D ≤ 6) {m : Nat} (C : Circ f t W D dx dz q m) {w : Nat} (hw : w < 12) : (kx q m w = 0 ∧ (∀ l, l < m → q l ≠ w) ∧ (∀ l, l < m → q l ≠ 12 + w)) ∨ (kx q m w = 1 ∧ 0 < dx w) ∨ (kx q m w = -1 ∧ dx w < 0) := by
  obtain ⟨c1, c2, c3, c4, c5⟩ := C
  have inj : ∀ a b, a < b → b < m → q a ≠ q b := fun a b h1 h2 h3 => c5 a b h1 h2 (by rw [h3])
  unfold kx
  rw [smI_sub]
  rcases ct_one (c := w) m inj with ⟨h1, h2⟩ | ⟨h1, l, h2, h3⟩
  · rcases ct_one (c := 12 + w) m inj with ⟨g1, g2⟩ | ⟨g1, l', g2, g3⟩
    · left; rw [h1, g1]; exact ⟨rfl, h2, g2⟩
    · right; right
      rw [h1, g1]
      exact ⟨rfl, (cA_2 W12 D6 hw (by rw [← g3]; exact c2 l')).2⟩
  · have y := (cA_1 W12 D6 hw (by rw [← h3]; exact c2 l)).2
    rcases ct_one (c := 12 + w) m inj with ⟨g1, g2⟩ | ⟨g1, l', g2, g3⟩
    · right; left
      rw [h1, g1]
      exact ⟨rfl, y⟩
    · have := (cA_2 W12 D6 hw (by rw [← g3]; exact c2 l')).2
      omega
theorem kz_cs (W12 : W ≤ 12) (D6 : D ≤ 6) {m : Nat} (C : Circ f t W D dx dz q m) {w : Nat} (hw : w < 6) : kz q m w = 0 ∨ (kz q m w = 1 ∧ 0 < dz w) ∨ (kz q m w = -1 ∧ dz w < 0) := by
  obtain ⟨c1, c2, c3, c4, c5⟩ := C
  have inj : ∀ a b, a < b → b < m → q a ≠ q b := fun a b h1 h2 h3 => c5 a b h1 h2 (by rw [h3])
  unfold kz
  rw [smI_sub]
  rcases ct_one (c := 24 + w) m inj with ⟨h1, h2⟩ | ⟨h1, l, h2, h3⟩
  · rcases ct_one (c := 30 + w) m inj with ⟨g1, g2⟩ | ⟨g1, l', g2, g3⟩
    · left; rw [h1, g1]; rfl
    · right; right
      rw [h1, g1]
      exact ⟨rfl, (cA_4 W12 D6 (by rw [← g3]; exact c2 l')).2⟩
  · have y := (cA_3 W12 D6 hw (by rw [← h3]; exact c2 l)).2
    rcases ct_one (c := 30 + w) m inj with ⟨g1, g2⟩ | ⟨g1, l', g2, g3⟩
    · right; left
      rw [h1, g1]
      exact ⟨rfl, y⟩
    · have := (cA_4 W12 D6 (by rw [← g3]; exact c2 l')).2
      omega
/-- some way lies on it -/
theorem cy_way (E : Ends f t W D g) {m : Nat} (C : Circ f t W D dx dz q m) : ∃ w, w < W ∧ kx q m w ≠ 0 := by
  have C0 := C
  obtain ⟨c1, c2, c3, c4, c5⟩ := C
  obtain ⟨W12, D6, gD, en⟩ := E
  refine Classical.byContradiction fun no => ?_
  have no' : ∀ l, l < m → (∃ d, d < D ∧ q l = 24 + d ∧ 0 < dz d) ∨ ∃ d, d < D ∧ q l = 30 + d ∧ dz d < 0 := fun l hl => by
    rcases c2 l with ⟨w, w1, w2, w3⟩ | ⟨w, w1, w2, w3⟩ | h | h
    · rcases kx_cs W12 D6 C0 (w := w) (by omega) with ⟨_, h2, _⟩ | ⟨h1, _⟩ | ⟨h1, _⟩
      · exact absurd w2 (h2 l hl)
      · exact absurd ⟨w, w1, by rw [h1]; decide⟩ no
      · exact absurd ⟨w, w1, by rw [h1]; decide⟩ no
    · rcases kx_cs W12 D6 C0 (w := w) (by omega) with ⟨_, _, h2⟩ | ⟨h1, _⟩ | ⟨h1, _⟩
      · exact absurd w2 (h2 l hl)
      · exact absurd ⟨w, w1, by rw [h1]; decide⟩ no
      · exact absurd ⟨w, w1, by rw [h1]; decide⟩ no
    · exact Or.inl h
    · exact Or.inr h
  have nxt : ∀ l, l < m → ∃ l', l' < m ∧ cT f t (q l') = cH f t (q l) := fun l hl => by
    by_cases z : l + 1 < m
    · exact ⟨l + 1, z, c3 l⟩
    · obtain rfl : m = l + 1 := by omega
      exact ⟨0, c1, c4.symm.trans (c3 l)⟩
  have noA : ∀ l, l < m → ∀ d, d < D → q l = 24 + d → 0 < dz d → False := fun l hl d hd e y => by
    obtain ⟨l', h1, h2⟩ := nxt l hl
    rw [e, cH_g (by omega)] at h2
    rcases no' l' h1 with ⟨d', e1, e2, e3⟩ | ⟨d', e1, e2, e3⟩
    · rw [e2, cT_g (by omega)] at h2; omega
    · rw [e2, cT_h] at h2; subst h2; omega
  rcases no' 0 c1 with ⟨d', e1, e2, e3⟩ | ⟨d', e1, e2, e3⟩
  · exact noA 0 c1 d' e1 e2 e3
  · obtain ⟨l', h1, h2⟩ := nxt 0 c1
    rw [e2, cH_h] at h2
    rcases no' l' h1 with ⟨d, g1, g2, g3⟩ | ⟨d, g1, g2, g3⟩
    · exact noA l' h1 d g1 g2 g3
    · rw [g2, cT_h] at h2; omega
theorem nt_cg {x x' z z' : Nat → Int} {d : Nat} (h1 : ∀ w, w < W → x w = x' w) (h2 : z d = z' d) : nt f t W x z d = nt f t W x' z' d := by
  unfold nt
  rw [h2, smI_cg W (fun w hw => by rw [h1 w hw])]
theorem nt_add {x x' z z' : Nat → Int} {d : Nat} : nt f t W (fun w => x w + x' w) (fun d => z d + z' d) d = nt f t W x z d + nt f t W x' z' d := by
  unfold nt
  rw [smI_cg (G := fun w => ((if t w = d then x w else 0) - (if f w = d then x w else 0)) + ((if t w = d then x' w else 0) - (if f w = d then x' w else 0))) W (fun w _ => by dsimp only; split <;> split <;> omega), smI_add]
  simp only
  omega
theorem nt_sub {x x' z z' : Nat → Int} {d : Nat} : nt f t W (fun w => x w - x' w) (fun d => z d - z' d) d = nt f t W x z d - nt f t W x' z' d := by
  unfold nt
  rw [smI_cg (G := fun w => ((if t w = d then x w else 0) - (if f w = d then x w else 0)) - ((if t w = d then x' w else 0) - (if f w = d then x' w else 0))) W (fun w _ => by dsimp only; split <;> split <;> omega), smI_sub]
  simp only
  omega
theorem kc_add {x x' : Nat → Int} : kc k W (fun w => x w + x' w) = kc k W x + kc k W x' := by
  unfold kc
  rw [smI_cg (G := fun w => k w * x w + k w * x' w) W (fun w _ => Int.mul_add _ _ _), smI_add]
theorem kc_sub {x x' : Nat → Int} : kc k W (fun w => x w - x' w) = kc k W x - kc k W x' := by
  unfold kc
  rw [smI_cg (G := fun w => k w * x w - k w * x' w) W (fun w _ => Int.mul_sub _ _ _), smI_sub]
/-- what comes of the first m edges -/
theorem nt_k (E : Ends f t W D g) (c2 : ∀ l, cA W D dx dz (q l)) (c3 : ∀ l, cT f t (q (l + 1)) = cH f t (q l)) {d : Nat} (hd : d < D) : ∀ m, nt f t W (kx q m) (kz q m) d = (if cT f t (q m) = d then 1 else 0) - (if cT f t (q 0) = d then 1 else 0) := by
  obtain ⟨W12, D6, gD, en⟩ := E
  intro m
  induction m with
  | zero =>
    rw [Int.sub_self]
    unfold nt
    rw [smI_0 W (fun i _ => by rw [show kx q 0 i = 0 from rfl, ite_self, ite_self]; rfl)]
    rfl
  | succ m ih =>
    have sx : ∀ w, kx q (m + 1) w = kx q m w + ((if q m = w then 1 else 0) - (if q m = 12 + w then 1 else 0)) := fun w => rfl
    have sz : ∀ w, kz q (m + 1) w = kz q m w + ((if q m = 24 + w then 1 else 0) - (if q m = 30 + w then 1 else 0)) := fun w => rfl
    have l3 := c3 m
    generalize (if cT f t (q 0) = d then (1 : Int) else 0) = K0 at ih ⊢
    rcases c2 m with ⟨w, w1, w2, w3⟩ | ⟨w, w1, w2, w3⟩ | ⟨w, w1, w2, w3⟩ | ⟨w, w1, w2, w3⟩
    · rw [w2] at ih sx sz l3
      rw [cT_f (by omega)] at ih
      rw [cH_f (by omega)] at l3
      have hx : ∀ y, y < W → kx q (m + 1) y = uq (kx q m) w (kx q m w + 1) y := fun y hy => by
        rw [sx y, if_neg (show ¬ w = 12 + y by omega)]
        by_cases y1 : w = y
        · subst y1; rw [if_pos rfl, uq_at]; omega
        · rw [if_neg y1, uq_ne (fun z => y1 z.symm)]; omega
      have hz : kz q (m + 1) d = kz q m d := by rw [sz d, if_neg (by omega), if_neg (by omega)]; omega
      rw [nt_cg (z' := kz q m) hx hz, nt_x w1, ih, l3]
      have := (en w w1).2.2
      by_cases y1 : t w = d
      · rw [if_pos y1, if_neg (by omega), if_neg (by omega), if_pos y1]; omega
      · rw [if_neg y1, if_neg y1]
        by_cases y2 : f w = d
        · rw [if_pos y2, if_pos y2]; omega
        · rw [if_neg y2, if_neg y2]; omega
    · rw [w2] at ih sx sz l3
      rw [cT_b (by omega)] at ih
      rw [cH_b (by omega)] at l3
      have hx : ∀ y, y < W → kx q (m + 1) y = uq (kx q m) w (kx q m w - 1) y := fun y hy => by
        rw [sx y, if_neg (show ¬ 12 + w = y by omega)]
        by_cases y1 : w = y
        · subst y1; rw [if_pos rfl, uq_at]; omega
        · rw [if_neg (show ¬ 12 + w = 12 + y by omega), uq_ne (fun z => y1 z.symm)]; omega
      have hz : kz q (m + 1) d = kz q m d := by rw [sz d, if_neg (by omega), if_neg (by omega)]; omega
      rw [nt_cg (z' := kz q m) hx hz, nt_x w1, ih, l3]
      have := (en w w1).2.2
      by_cases y1 : t w = d
      · rw [if_pos y1, if_pos y1, if_neg (show ¬ f w = d by omega), if_neg (show ¬ f w = d by omega)]; omega
      · rw [if_neg y1, if_neg y1]
        by_cases y2 : f w = d
        · rw [if_pos y2, if_pos y2]; omega
        · rw [if_neg y2, if_neg y2]; omega
    · rw [w2] at ih sx sz l3
      rw [cT_g (by omega)] at ih
      rw [cH_g (by omega)] at l3
      have hx : ∀ y, y < W → kx q (m + 1) y = kx q m y := fun y hy => by rw [sx y, if_neg (by omega), if_neg (by omega)]; omega
      have hz : kz q (m + 1) d = uq (kz q m) w (kz q m w + 1) d := by
        rw [sz d, if_neg (show ¬ 24 + w = 30 + d by omega)]
        by_cases y1 : w = d
        · subst y1; rw [if_pos rfl, uq_at]; omega
        · rw [if_neg (show ¬ 24 + w = 24 + d by omega), uq_ne (fun z => y1 z.symm)]; omega
      rw [nt_cg (x' := kx q m) hx hz, nt_z, ih, l3]
      by_cases y1 : d = w
      · subst y1; rw [if_pos rfl, if_neg (by omega), if_pos rfl]; omega
      · rw [if_neg y1, if_neg (by omega), if_neg (by omega)]; omega
    · rw [w2] at ih sx sz l3
      rw [cT_h] at ih
      rw [cH_h] at l3
      have hx : ∀ y, y < W → kx q (m + 1) y = kx q m y := fun y hy => by rw [sx y, if_neg (by omega), if_neg (by omega)]; omega
      have hz : kz q (m + 1) d = uq (kz q m) w (kz q m w - 1) d := by
        rw [sz d, if_neg (show ¬ 30 + w = 24 + d by omega)]
        by_cases y1 : w = d
        · subst y1; rw [if_pos rfl, uq_at]; omega
        · rw [if_neg (show ¬ 30 + w = 30 + d by omega), uq_ne (fun z => y1 z.symm)]; omega
      rw [nt_cg (x' := kx q m) hx hz, nt_z, ih, l3]
      by_cases y1 : d = w
      · subst y1; rw [if_pos rfl, if_pos rfl, if_neg (by omega)]; omega
      · rw [if_neg y1, if_neg (by omega), if_neg (by omega)]; omega
theorem p3 : ∀ n, n < 12 → (3 : Int) ^ (12 - n) = 3 * 3 ^ (11 - n) ∧ (1 : Int) ≤ 3 ^ (11 - n) ∧ (12 - (n + 1) = 11 - n) := by decide
theorem t_bd {c : Nat → Int} : ∀ n, n ≤ 12 → (∀ w, w < n → c w = 0 ∨ c w = 1 ∨ c w = -1) → 2 * smI (fun w => 3 ^ (11 - w) * c w) n + 3 ^ (12 - n) ≤ 531441 := by
  intro n
  induction n with
  | zero =>
    intro _ _
    show (2 : Int) * 0 + 3 ^ 12 ≤ 531441
    decide
  | succ n ih =>
    intro h1 h2
    have i := ih (by omega) (fun w hw => h2 w (by omega))
    obtain ⟨q1, q2, q3⟩ := p3 n (by omega)
    show 2 * (smI (fun w => 3 ^ (11 - w) * c w) n + 3 ^ (11 - n) * c n) + 3 ^ (12 - (n + 1)) ≤ 531441
    rw [q3]
    rw [q1] at i
    generalize (3 : Int) ^ (11 - n) = P at *
    rcases h2 n (by omega) with h | h | h <;> rw [h] <;> omega
theorem t_ng {c : Nat → Int} {w0 : Nat} (z : ∀ w, w < w0 → c w = 0) (z1 : c w0 = -1) : ∀ n, n ≤ 12 → w0 < n → (∀ w, w < n → c w = 0 ∨ c w = 1 ∨ c w = -1) → 2 * smI (fun w => 3 ^ (11 - w) * c w) n + 3 ^ (11 - w0) + 3 ^ (12 - n) ≤ 0 := by
  intro n
  induction n with
  | zero => intro _ h _; omega
  | succ n ih =>
    intro h1 h0 h2
    obtain ⟨q1, q2, q3⟩ := p3 n (by omega)
    show 2 * (smI (fun w => 3 ^ (11 - w) * c w) n + 3 ^ (11 - n) * c n) + 3 ^ (11 - w0) + 3 ^ (12 - (n + 1)) ≤ 0
    rw [q3]
    by_cases y : w0 = n
    · subst y
      rw [smI_0 w0 (fun i hi => by rw [z i hi, Int.mul_zero]), z1]
      omega
    · have i := ih (by omega) (by omega) (fun w hw => h2 w (by omega))
      rw [q1] at i
      generalize (3 : Int) ^ (11 - n) = P at *
      rcases h2 n (by omega) with h | h | h <;> rw [h] <;> omega
/-- the least load: by price, then by tons -/
def LXo (f t : Nat → Nat) (cp sp : Nat → Int) (W D g : Nat) (p : Nat → Int) (n : Int) (y : Nat → Int) : Prop := ∀ x z, Feas f t cp sp W D g x z n → kc p W y < kc p W x ∨ kc p W y = kc p W x ∧ ((∀ w, w < W → x w = y w) ∨ ∃ w, w < W ∧ (∀ j, j < w → x j = y j) ∧ y w < x w)
theorem sm_one_nt (E : Ends f t W D g) {x z : Nat → Int} : smI z D = smI (fun d => nt f t W x z d) D := by
  have := nt_sum E (p := fun _ => 1) (x := x) (z := z)
  rw [smI_cg (F := fun d => 1 * nt f t W x z d) (G := fun d => nt f t W x z d) D (fun d _ => Int.one_mul _), smI_cg (F := fun d => 1 * z d) (G := z) D (fun d _ => Int.one_mul _), smI_0 W (fun w _ => by show ((1 : Int) - 1) * x w = 0; rw [Int.sub_self, Int.zero_mul])] at this
  omega
theorem lex_opt (E : Ends f t W D g) (hk : ∀ w, w < W → k w = p w * 531441 + 3 ^ (11 - w)) {x zx y zy : Nat → Int} {n : Int} (Fx : Feas f t cp sp W D g x zx n) (Fy : Feas f t cp sp W D g y zy n)
    (Ox : ∀ x' z', Feas f t cp sp W D g x' z' n → kc k W x ≤ kc k W x') (Oy : LXo f t cp sp W D g p n y) : ∀ w, w < W → x w = y w := by
  refine Classical.byContradiction fun no => ?_
  have E0 := E
  obtain ⟨W12, D6, gD, en⟩ := E
  obtain ⟨w0, h0, h1⟩ : ∃ w, w < W ∧ x w ≠ y w := Classical.byContradiction fun c => no fun w hw => Classical.byContradiction fun z => c ⟨w, hw, z⟩
  have b : ∀ d, d < D → nt f t W (fun w => y w - x w) (fun d => zy d - zx d) d = 0 := fun d hd => by
    rw [nt_sub, Fx.2.2 d hd, Fy.2.2 d hd]; omega
  have s : smI (fun d => zy d - zx d) D = 0 := by
    rw [smI_sub, sm_one_nt E0 (x := y) (z := zy), sm_one_nt E0 (x := x) (z := zx), smI_cg (F := fun d => nt f t W y zy d) (G := fun d => nt f t W x zx d) D (fun d hd => by rw [Fx.2.2 d hd, Fy.2.2 d hd])]
    omega
  obtain ⟨e0, he⟩ : ∃ e, cA W D (fun w => y w - x w) (fun d => zy d - zx d) e := by
    by_cases z : 0 < y w0 - x w0
    · exact ⟨w0, Or.inl ⟨w0, h0, rfl, z⟩⟩
    · exact ⟨12 + w0, Or.inr (Or.inl ⟨w0, h0, rfl, by show y w0 - x w0 < 0; omega⟩)⟩
  obtain ⟨q, m, C⟩ := cy_ex E0 b s he
  have Cw := cy_way E0 C
  have X : ∀ w, w < W → kx q m w = 0 ∨ kx q m w = 1 ∧ 0 < y w - x w ∨ kx q m w = -1 ∧ y w - x w < 0 := fun w hw => by
    rcases kx_cs W12 D6 C (w := w) (by omega) with h | h | h
    · exact Or.inl h.1
    · exact Or.inr (Or.inl h)
    · exact Or.inr (Or.inr h)
  have Z : ∀ d, d < D → kz q m d = 0 ∨ kz q m d = 1 ∧ 0 < zy d - zx d ∨ kz q m d = -1 ∧ zy d - zx d < 0 := fun d hd => kz_cs W12 D6 C (by omega)
  have N : ∀ d, d < D → nt f t W (kx q m) (kz q m) d = 0 := fun d hd => by
    rw [nt_k E0 C.2.1 C.2.2.1 hd m, C.2.2.2.1]; omega
  have F1 : Feas f t cp sp W D g (fun w => x w + kx q m w) (fun d => zx d + kz q m d) n := ⟨fun w hw => by
      have a1 := Fx.1 w hw; have a2 := Fy.1 w hw; have a3 := X w hw
      show 0 ≤ x w + kx q m w ∧ x w + kx q m w ≤ cp w
      omega, fun d hd => by
      have a1 := Fx.2.1 d hd; have a2 := Fy.2.1 d hd; have a3 := Z d hd
      show 0 ≤ zx d + kz q m d ∧ zx d + kz q m d ≤ sp d
      omega, fun d hd => by rw [nt_add, Fx.2.2 d hd, N d hd, Int.add_zero]⟩
  have F2 : Feas f t cp sp W D g (fun w => y w - kx q m w) (fun d => zy d - kz q m d) n := ⟨fun w hw => by
      have a1 := Fx.1 w hw; have a2 := Fy.1 w hw; have a3 := X w hw
      show 0 ≤ y w - kx q m w ∧ y w - kx q m w ≤ cp w
      omega, fun d hd => by
      have a1 := Fx.2.1 d hd; have a2 := Fy.2.1 d hd; have a3 := Z d hd
      show 0 ≤ zy d - kz q m d ∧ zy d - kz q m d ≤ sp d
      omega, fun d hd => by rw [nt_sub, Fy.2.2 d hd, N d hd, Int.sub_zero]⟩
  have o1 := Ox _ _ F1
  have o2 := Oy _ _ F2
  rw [kc_add] at o1
  rw [kc_sub] at o2
  have kk : kc k W (kx q m) = kc p W (kx q m) * 531441 + smI (fun w => 3 ^ (11 - w) * kx q m w) W := by
    unfold kc
    rw [smI_cg (G := fun w => (fun w => p w * kx q m w * 531441) w + (fun w => 3 ^ (11 - w) * kx q m w) w) W (fun w hw => by
      show k w * kx q m w = p w * kx q m w * 531441 + 3 ^ (11 - w) * kx q m w
      rw [hk w hw, Int.add_mul, Int.mul_right_comm]), smI_add]
    congr 1
    have : ∀ n, smI (fun w => p w * kx q m w * 531441) n = smI (fun w => p w * kx q m w) n * 531441 := fun n => by
      induction n with
      | zero => rfl
      | succ n ih =>
        show smI (fun w => p w * kx q m w * 531441) n + p n * kx q m n * 531441 = (smI (fun w => p w * kx q m w) n + p n * kx q m n) * 531441
        rw [ih, Int.add_mul]
    exact this W
  have X' : ∀ w, w < W → kx q m w = 0 ∨ kx q m w = 1 ∨ kx q m w = -1 := fun w hw => by have := X w hw; omega
  have tb := t_bd W W12 X'
  have t0 : (0 : Int) ≤ 3 ^ (12 - W) := by
    have : ∀ n, n ≤ 12 → (0 : Int) ≤ 3 ^ (12 - n) := by decide
    exact this W W12

  have pz : kc p W (kx q m) = 0 := by omega
  rcases o2 with o2 | ⟨_, o2 | ⟨w, w1, w2, w3⟩⟩
  · omega
  · obtain ⟨w, w1, w2⟩ := Cw
    have : y w - kx q m w = y w := o2 w w1
    omega
  · have w4 : ∀ j, j < w → y j - kx q m j = y j := w2
    have w5 : y w < y w - kx q m w := w3
    have n1 : kx q m w = -1 := by have := X' w w1; omega
    have := t_ng (c := kx q m) (w0 := w) (fun j hj => by have := w4 j hj; omega) n1 W W12 w1 X'
    have p1 := (p3 w (by omega)).2.1
    omega
end LXA
