def uq (x : Nat → Int) (i : Nat) (v : Int) : Nat → Int := fun y => if y = i then v else x y
theorem uq_at (x : Nat → Int) (i : Nat) (v : Int) : uq x i v i = v := if_pos rfl
theorem uq_ne {x : Nat → Int} {i j : Nat} {v : Int} (h : j ≠ i) : uq x i v j = x j := if_neg h
/-- q more along one edge -/
def ag1 (q : Int) (e : Nat) (s : (Nat → Int) × (Nat → Int)) : (Nat → Int) × (Nat → Int) :=
  if e < 12 then (uq s.1 e (s.1 e + q), s.2) else if e < 24 then (uq s.1 (e - 12) (s.1 (e - 12) - q), s.2) else (s.1, uq s.2 (e - 24) (s.2 (e - 24) + q))
/-- q more along the way back from v to the source -/
def aug (eu pd : Nat → Nat) (q : Int) : Nat → Nat → (Nat → Int) × (Nat → Int) → (Nat → Int) × (Nat → Int)
  | 0, _, s => s
  | n + 1, v, s => if v = 6 then s else aug eu pd q n (eu (pd v)) (ag1 q (pd v) s)
/-- the room on the way back -/
def pok (r : Nat → Int) (eu pd : Nat → Nat) (q : Int) : Nat → Nat → Prop
  | 0, _ => True
  | n + 1, v => v = 6 ∨ q ≤ r (pd v) ∧ pok r eu pd q n (eu (pd v))
section AU
variable {f t : Nat → Nat} {k cp sp pt : Nat → Int} {W D g : Nat} {x z : Nat → Int} {er : Nat → Prop} {lab : Nat → Option Int} {pd rk : Nat → Nat} {q K : Int}
theorem nt_x {xc zc : Nat → Int} {w d : Nat} {v : Int} (hw : w < W) : nt f t W (uq xc w v) zc d = nt f t W xc zc d + ((if t w = d then v - xc w else 0) - (if f w = d then v - xc w else 0)) := by
  unfold nt
  rw [smI_up (F := fun w => (if t w = d then xc w else 0) - (if f w = d then xc w else 0)) (j := w) (fun i hi => by simp only [uq_ne hi]) W hw]
  simp only [uq_at]
  split <;> split <;> omega
theorem nt_z {xc zc : Nat → Int} {d e : Nat} {v : Int} : nt f t W xc (uq zc e v) d = nt f t W xc zc d + (if d = e then v - zc e else 0) := by
  unfold nt
  by_cases h : d = e
  · subst h; rw [uq_at, if_pos rfl]; omega
  · rw [uq_ne h, if_neg h]; omega
theorem kc_x {xc : Nat → Int} {w : Nat} {v : Int} (hw : w < W) : kc k W (uq xc w v) = kc k W xc + k w * (v - xc w) := by
  unfold kc
  rw [smI_up (F := fun w => k w * xc w) (j := w) (fun i hi => by simp only [uq_ne hi]) W hw]
  simp only [uq_at]
  rw [Int.mul_sub]
def onP (lab : Nat → Option Int) (pt : Nat → Int) (K : Int) (v : Nat) : Prop := ∃ b, lab v = some b ∧ b - pt v ≤ K
theorem aug_spec (E : Ends f t W D g) (V : Vali f t k cp sp W D pt x z) (C : Conv (eU f t) (eV f t) (eC k) er pt D lab pd rk) (hr : ∀ e, er e → 0 < rs cp sp W D x z e) (hq : 0 < q) : ∀ (n v : Nat) (a : Int) (xc zc : Nat → Int), rk v ≤ n → lab v = some a → a - pt v ≤ K → pok (rs cp sp W D x z) (eU f t) pd q n v →
    (∀ u b, u ≠ 6 → lab u = some b → rk u ≤ rk v → (∀ w, pd u = w ∨ pd u = 12 + w → xc w = x w) ∧ (∀ d, pd u = 24 + d → zc d = z d)) →
    ∀ x' z', (x', z') = aug (eU f t) pd q n v (xc, zc) →
    (∀ d, d < D → nt f t W x' z' d = nt f t W xc zc d + if d = v then q else 0) ∧ kc k W x' = kc k W xc + q * a ∧
    (∀ w, x' w = xc w ∨ (xc w = x w ∧ x' w = x w + q ∧ w < W ∧ q ≤ cp w - x w ∧ ∃ b, lab (f w) = some b ∧ lab (t w) = some (b + k w) ∧ b + k w - pt (t w) ≤ K) ∨ (xc w = x w ∧ x' w = x w - q ∧ w < W ∧ q ≤ x w ∧ ∃ b, lab (t w) = some b ∧ lab (f w) = some (b - k w) ∧ b - k w - pt (f w) ≤ K)) ∧
    (∀ d, z' d = zc d ∨ (zc d = z d ∧ z' d = z d + q ∧ d < D ∧ q ≤ sp d - z d ∧ lab d = some 0 ∧ 0 - pt d ≤ K)) := by
  obtain ⟨W12, D6, gD, en⟩ := E
  obtain ⟨v1, v2, v3⟩ := V
  obtain ⟨l6, c1, c2, c3⟩ := C
  intro n
  induction n with
  | zero =>
    intro v a xc zc hn la hK _ _ x' z' e
    have hv : v = 6 := by
      rcases Nat.eq_or_lt_of_le (Nat.zero_le (rk v)) with _ | h
      · by_cases z : v = 6
        · exact z
        · have := (c3 v a z la).2.2.2.2; omega
      · omega
    subst hv
    rw [la] at l6
    cases l6
    cases e
    refine ⟨fun d hd => ?_, by omega, fun w => Or.inl rfl, fun d => Or.inl rfl⟩
    rw [if_neg (by omega)]; omega
  | succ n ih =>
    intro v a xc zc hn la hK pk ag x' z' e
    by_cases hv : v = 6
    · subst hv
      rw [la] at l6
      cases l6
      rw [aug, if_pos rfl] at e
      cases e
      refine ⟨fun d hd => ?_, by omega, fun w => Or.inl rfl, fun d => Or.inl rfl⟩
      rw [if_neg (by omega)]; omega
    · obtain ⟨p1, p2, p3, p4, p5⟩ := c3 v a hv la
      rw [aug, if_neg hv] at e
      have pk := pk.resolve_left hv
      obtain ⟨pk1, pk2⟩ := pk
      have hr0 := hr _ p2
      have vu := v2 _ p1 hr0
      rw [p3] at vu
      have uK : a - eC k (pd v) - pt (eU f t (pd v)) ≤ K := by omega
      obtain ⟨agx, agz⟩ := ag v a hv la (Nat.le_refl _)
      rcases rs_cs hr0 with ⟨w, w1, w2, we⟩ | ⟨w, w1, w2, we⟩ | ⟨d, d1, de⟩
      · rw [we] at p3 p4 p5 pk1 pk2 e uK
        rw [eV_f w2] at p3
        rw [eU_f w2] at p4 p5 pk2 e uK
        rw [eC_f w2] at p4 uK
        rw [rs_f w1 W12] at pk1
        rw [ag1, if_pos w2] at e
        have xw := agx w (Or.inl we)
        obtain ⟨i1, i2, i3, i4⟩ := ih (f w) (a - k w) (uq xc w (xc w + q)) zc (by omega) p4 uK pk2 (fun u b hu lu ru => by
          obtain ⟨g1, g2⟩ := ag u b hu lu (by omega)
          refine ⟨fun w' hw' => ?_, g2⟩
          have ne : w' ≠ w := by
            rintro rfl
            obtain ⟨r1, r2, r3, r4, r5⟩ := c3 u b hu lu
            rcases hw' with hw' | hw'
            · rw [hw', eV_f w2, p3] at r3
              subst r3; omega
            · rw [hw', eV_b w2] at r3
              rw [hw', eU_b w2, p3] at r5
              omega
          rw [uq_ne ne]
          exact g1 w' hw') x' z' e
        have tw : t w = v := p3
        refine ⟨fun d hd => ?_, ?_, fun w' => ?_, i4⟩
        · rw [i1 d hd, nt_x w1, tw]
          have := (en w w1).2.2
          by_cases y1 : d = v
          · subst y1
            rw [if_pos rfl, if_neg (by omega), if_pos rfl, if_neg (by omega)]; omega
          · by_cases y2 : d = f w
            · subst y2
              rw [if_neg (by omega), if_pos rfl, if_pos rfl, if_neg (by omega)]; omega
            · rw [if_neg (by omega), if_neg (by omega), if_neg (by omega), if_neg (by omega)]; omega
        · rw [i2, kc_x w1, show xc w + q - xc w = q by omega, Int.mul_sub, Int.mul_comm (k w) q]; omega
        · by_cases y : w' = w
          · subst y
            right; left
            have := i3 w'
            rw [uq_at] at this
            refine ⟨xw, by omega, w1, pk1, a - k w', p4, by rw [tw, la]; congr 1; omega, by rw [tw]; omega⟩
          · have := i3 w'
            rw [uq_ne y] at this
            exact this
      · rw [we] at p3 p4 p5 pk1 pk2 e uK
        rw [eV_b w2] at p3
        rw [eU_b w2] at p4 p5 pk2 e uK
        rw [eC_b w2] at p4 uK
        rw [rs_b w1 W12] at pk1
        rw [ag1, if_neg (by omega), if_pos (by omega), Nat.add_sub_cancel_left] at e
        have xw := agx w (Or.inr we)
        obtain ⟨i1, i2, i3, i4⟩ := ih (t w) (a - - k w) (uq xc w (xc w - q)) zc (by omega) p4 uK pk2 (fun u b hu lu ru => by
          obtain ⟨g1, g2⟩ := ag u b hu lu (by omega)
          refine ⟨fun w' hw' => ?_, g2⟩
          have ne : w' ≠ w := by
            rintro rfl
            obtain ⟨r1, r2, r3, r4, r5⟩ := c3 u b hu lu
            rcases hw' with hw' | hw'
            · rw [hw', eV_f w2] at r3
              rw [hw', eU_f w2, p3] at r5
              omega
            · rw [hw', eV_b w2, p3] at r3
              subst r3; omega
          rw [uq_ne ne]
          exact g1 w' hw') x' z' e
        have fw : f w = v := p3
        refine ⟨fun d hd => ?_, ?_, fun w' => ?_, i4⟩
        · rw [i1 d hd, nt_x w1, fw]
          have := (en w w1).2.2
          by_cases y1 : d = v
          · subst y1
            rw [if_neg (by omega), if_pos rfl, if_neg (by omega), if_pos rfl]; omega
          · by_cases y2 : d = t w
            · subst y2
              rw [if_pos rfl, if_neg (by omega), if_pos rfl, if_neg (by omega)]; omega
            · rw [if_neg (by omega), if_neg (by omega), if_neg (by omega), if_neg (by omega)]; omega
        · rw [i2, kc_x w1, show xc w - q - xc w = - q by omega, Int.mul_neg, Int.mul_sub, Int.mul_neg, Int.mul_comm (k w) q]; omega
        · by_cases y : w' = w
          · subst y
            right; right
            have := i3 w'
            rw [uq_at] at this
            refine ⟨xw, by omega, w1, pk1, a - - k w', p4, by rw [fw, la]; congr 1; omega, by rw [fw]; omega⟩
          · have := i3 w'
            rw [uq_ne y] at this
            exact this
      · rw [de] at p3 p4 p5 pk1 pk2 e uK
        rw [eV_g] at p3
        rw [eU_g] at p4 p5 pk2 e uK
        rw [eC_g] at p4 uK
        rw [rs_g d1] at pk1
        rw [ag1, if_neg (by omega), if_neg (by omega), Nat.add_sub_cancel_left] at e
        have zd := agz d de
        have a0 : a = 0 := by
          rw [l6] at p4
          have := Option.some.inj p4
          omega
        obtain ⟨i1, i2, i3, i4⟩ := ih 6 (a - 0) xc (uq zc d (zc d + q)) (by omega) p4 uK pk2 (fun u b hu lu ru => by
          obtain ⟨g1, g2⟩ := ag u b hu lu (by omega)
          refine ⟨g1, fun d' hd' => ?_⟩
          have ne : d' ≠ d := by
            rintro rfl
            obtain ⟨r1, r2, r3, r4, r5⟩ := c3 u b hu lu
            rw [hd', eV_g, p3] at r3
            subst r3; omega
          rw [uq_ne ne]
          exact g2 d' hd') x' z' e
        refine ⟨fun d' hd => ?_, ?_, i3, fun d' => ?_⟩
        · rw [i1 d' hd, nt_z, p3]
          by_cases y1 : d' = v
          · subst y1
            rw [if_pos rfl, if_neg (by omega), if_pos rfl]; omega
          · rw [if_neg y1, if_neg (by omega), if_neg y1]; omega
        · rw [i2, a0]; omega
        · by_cases y : d' = d
          · subst y
            right
            have := i4 d'
            rw [uq_at] at this
            refine ⟨zd, by omega, d1, pk1, by rw [p3, la, a0], by rw [p3]; omega⟩
          · have := i4 d'
            rw [uq_ne y] at this
            exact this
/-- the prices after a load has grown -/
def npt (lab : Nat → Option Int) (pt : Nat → Int) (K : Int) (v : Nat) : Int := match lab v with
  | some b => if b ≤ pt v + K then b else pt v + K
  | none => pt v + K
theorem npt_le {v : Nat} : npt lab pt K v ≤ pt v + K := by
  unfold npt; split
  · split <;> omega
  · omega
theorem npt_lb {v : Nat} {b : Int} (h : lab v = some b) : npt lab pt K v ≤ b := by
  unfold npt; rw [h]; simp only; split <;> omega
theorem npt_on {v : Nat} {b : Int} (h : lab v = some b) (hK : b - pt v ≤ K) : npt lab pt K v = b := by
  unfold npt; rw [h]; simp only; rw [if_pos (by omega)]
theorem npt_cs (v : Nat) : npt lab pt K v = pt v + K ∨ ∃ b, lab v = some b ∧ npt lab pt K v = b ∧ b < pt v + K := by
  unfold npt
  split
  · rename_i b hb
    by_cases h : b = pt v + K
    · left; rw [if_pos (by omega), h]
    · by_cases h2 : b ≤ pt v + K
      · right; exact ⟨b, hb, if_pos h2, by omega⟩
      · left; rw [if_neg h2]
  · left; rfl
theorem grow (E : Ends f t W D g) {m ag : Int} {n : Nat} {x' z' : Nat → Int} (F : Feas f t cp sp W D g x z m) (V : Vali f t k cp sp W D pt x z) (C : Conv (eU f t) (eV f t) (eC k) er pt D lab pd rk) (hr : ∀ e, er e → 0 < rs cp sp W D x z e) (ha : ∀ e, e < 30 → 0 < rs cp sp W D x z e → eU f t e ≠ g → er e) (hq : 0 < q) (lg : lab g = some ag) (hn : rk g ≤ n) (pk : pok (rs cp sp W D x z) (eU f t) pd q n g) (e : (x', z') = aug (eU f t) pd q n g (x, z)) :
    Feas f t cp sp W D g x' z' (m + q) ∧ kc k W x' = kc k W x + q * ag ∧ (∃ pt', Vali f t k cp sp W D pt' x' z') ∧ (∀ d, d < D → z d ≤ z' d) := by
  have S := aug_spec (K := ag - pt g) E V C hr hq n g ag x z hn lg (Int.le_refl _) pk (fun _ _ _ _ _ => ⟨fun _ _ => rfl, fun _ _ => rfl⟩) x' z' e
  obtain ⟨W12, D6, gD, en⟩ := E
  obtain ⟨f1, f2, f3⟩ := F
  obtain ⟨v1, v2, v3⟩ := V
  obtain ⟨l6, c1, c2, c3⟩ := C
  obtain ⟨s1, s2, s3, s4⟩ := S
  have K0 : 0 ≤ ag - pt g := by have := (c2 g ag lg).1; omega
  refine ⟨⟨fun w hw => ?_, fun d hd => ?_, fun d hd => ?_⟩, s2, ⟨npt lab pt (ag - pt g), ?_, fun e he re => ?_, fun d hd hz => ?_⟩, fun d hd => ?_⟩
  · have := f1 w hw
    rcases s3 w with h | ⟨h1, h2, h3, h4, _⟩ | ⟨h1, h2, h3, h4, _⟩ <;> omega
  · have := f2 d hd
    rcases s4 d with h | ⟨h1, h2, h3, h4, _⟩ <;> omega
  · rw [s1 d hd, f3 d hd]
    by_cases z : d = g
    · rw [if_pos z, if_pos z, if_pos z]
    · rw [if_neg z, if_neg z, if_neg z]; omega
  · rw [npt_on l6 (by omega)]
  · by_cases ro : 0 < rs cp sp W D x z e
    · have vv := v2 e he ro
      rcases npt_cs (lab := lab) (pt := pt) (K := ag - pt g) (eU f t e) with h | ⟨b, h1, h2, h3⟩
      · rw [h]
        have := npt_le (lab := lab) (pt := pt) (K := ag - pt g) (v := eV f t e)
        omega
      · rw [h2]
        have ng : eU f t e ≠ g := fun z => by
          rw [z, lg] at h1
          have := Option.some.inj h1
          rw [z] at h3
          omega
        obtain ⟨b', o1, o2⟩ := c1 e b he (ha e he ro ng) h1
        have := npt_lb (lab := lab) (pt := pt) (K := ag - pt g) o1
        omega
    · rcases rs_cs re with ⟨w, w1, w2, we⟩ | ⟨w, w1, w2, we⟩ | ⟨d, d1, de⟩
      · subst we
        rw [rs_f w1 W12] at re ro
        have fw := f1 e w1
        rcases s3 e with h | ⟨h1, h2, h3, h4, _⟩ | ⟨h1, h2, h3, h4, b, b1, b2, b3⟩
        · omega
        · omega
        · have res : 0 < rs cp sp W D x z (12 + e) := by rw [rs_b w1 W12]; omega
          have := v2 (12 + e) (by omega) res
          rw [eV_b w2, eU_b w2, eC_b w2] at this
          rw [eV_f w2, eU_f w2, eC_f w2, npt_on b1 (by omega), npt_on b2 b3]
          omega
      · subst we
        rw [rs_b w1 W12] at re ro
        have fw := f1 w w1
        rcases s3 w with h | ⟨h1, h2, h3, h4, b, b1, b2, b3⟩ | ⟨h1, h2, h3, h4, _⟩
        · omega
        · have res : 0 < rs cp sp W D x z w := by rw [rs_f w1 W12]; omega
          have := v2 w (by omega) res
          rw [eV_f w2, eU_f w2, eC_f w2] at this
          rw [eV_b w2, eU_b w2, eC_b w2, npt_on b1 (by omega), npt_on b2 b3]
          omega
        · omega
      · subst de
        rw [rs_g d1] at re ro
        rcases s4 d with h | ⟨h1, h2, h3, h4, _⟩ <;> omega
  · rcases s4 d with h | ⟨h1, h2, h3, h4, h5, h6⟩
    · have p0 := v3 d hd (by omega)
      unfold npt
      split
      · rename_i b hb
        have := (c2 d b hb).1
        split <;> omega
      · omega
    · rw [npt_on h5 h6]; exact Int.le_refl _
  · rcases s4 d with h | ⟨h1, h2, h3, h4, h5, h6⟩ <;> omega
/-- where the goal is out of reach, no load is greater -/
theorem cut (E : Ends f t W D g) {m n : Int} {x' z' : Nat → Int} (F : Feas f t cp sp W D g x z m) (C : Conv (eU f t) (eV f t) (eC k) er pt D lab pd rk) (ha : ∀ e, e < 30 → 0 < rs cp sp W D x z e → eU f t e ≠ g → er e) (lg : lab g = none) (F' : Feas f t cp sp W D g x' z' n) : n ≤ m := by
  obtain ⟨l6, c1, c2, c3⟩ := C
  obtain ⟨f1, f2, f3⟩ := F
  obtain ⟨g1, g2, g3⟩ := F'
  have n1 := nt_sum E (p := fun d => if lab d = none then 1 else 0) (x := x) (z := z)
  have n2 := nt_sum E (p := fun d => if lab d = none then 1 else 0) (x := x') (z := z')
  obtain ⟨W12, D6, gD, en⟩ := E
  have v1 : ∀ c : Int, smI (fun d => (if lab d = none then 1 else 0) * (if d = g then c else 0)) D = c := fun c => by
    rw [smI_cg (G := fun d => if g = d then c else 0) D (fun d _ => ?_)]
    · exact sm_one gD c
    · by_cases z : d = g
      · subst z; simp [lg]
      · rw [if_neg z, if_neg (fun y : g = d => z y.symm), Int.mul_zero]
  rw [smI_cg (G := fun d => (if lab d = none then 1 else 0) * (if d = g then m else 0)) D (fun d hd => by rw [f3 d hd]), v1] at n1
  rw [smI_cg (G := fun d => (if lab d = none then 1 else 0) * (if d = g then n else 0)) D (fun d hd => by rw [g3 d hd]), v1] at n2
  have a1 : smI (fun d => (if lab d = none then 1 else 0) * z' d) D ≤ smI (fun d => (if lab d = none then 1 else 0) * z d) D := smI_le D (fun d hd => by
    by_cases y : lab d = none
    · rw [if_pos y]
      have h1 := f2 d hd
      have h2 := g2 d hd
      have : ¬ 0 < sp d - z d := fun h => by
        have re : 0 < rs cp sp W D x z (24 + d) := by rw [rs_g hd]; exact h
        obtain ⟨b, b1, b2⟩ := c1 (24 + d) 0 (by omega) (ha _ (by omega) re (by rw [eU_g]; omega)) (by rw [eU_g]; exact l6)
        rw [eV_g, y] at b1
        cases b1
      omega
    · rw [if_neg y]; omega)
  have a2 : smI (fun w => ((if lab (t w) = none then 1 else 0) - (if lab (f w) = none then 1 else 0)) * x' w) W ≤ smI (fun w => ((if lab (t w) = none then 1 else 0) - (if lab (f w) = none then 1 else 0)) * x w) W := smI_le W (fun w hw => by
    have h1 := f1 w hw
    have h2 := g1 w hw
    by_cases y1 : lab (t w) = none
    · by_cases y2 : lab (f w) = none
      · rw [if_pos y1, if_pos y2]; omega
      · rw [if_pos y1, if_neg y2]
        have : ¬ 0 < cp w - x w := fun h => by
          have re : 0 < rs cp sp W D x z w := by rw [rs_f hw W12]; exact h
          have ⟨b0, hb0⟩ : ∃ b, lab (f w) = some b := Option.ne_none_iff_exists'.mp y2
          obtain ⟨b, b1, b2⟩ := c1 w b0 (by omega) (ha _ (by omega) re (by rw [eU_f (by omega)]; intro z; rw [z, lg] at hb0; cases hb0)) (by rw [eU_f (by omega)]; exact hb0)
          rw [eV_f (by omega), y1] at b1
          cases b1
        omega
    · by_cases y2 : lab (f w) = none
      · rw [if_neg y1, if_pos y2]
        have : ¬ 0 < x w := fun h => by
          have re : 0 < rs cp sp W D x z (12 + w) := by rw [rs_b hw W12]; exact h
          have ⟨b0, hb0⟩ : ∃ b, lab (t w) = some b := Option.ne_none_iff_exists'.mp y1
          obtain ⟨b, b1, b2⟩ := c1 (12 + w) b0 (by omega) (ha _ (by omega) re (by rw [eU_b (by omega)]; intro z; rw [z, lg] at hb0; cases hb0)) (by rw [eU_b (by omega)]; exact hb0)
          rw [eV_b (by omega), y2] at b1
          cases b1
        omega
      · rw [if_neg y1, if_neg y2]; omega)
  omega
end AU
