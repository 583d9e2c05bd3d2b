/-! the model's search -/
theorem BI_src {eu ev : Nat → Nat} {ec pt : Nat → Int} {er dn dn' : Nat → Prop} {D k : Nat} {ch : Bool} {lab : Nat → Option Int} {pd : Nat → Nat} (H : BI eu ev ec er pt D k ch dn lab pd) (hk : 2 ≤ k) (hd : ∀ e, e < 30 → er e → dn' e → dn e ∨ eu e = 6) : BI eu ev ec er pt D k ch dn' lab pd := by
  obtain ⟨ta, cg, T, h1, h2, h3, h4, h5, h6⟩ := H
  refine ⟨ta, cg, T, h1, h2, h3, h4, h5, fun e a he re la => ⟨fun de ck => ?_, (h6 e a he re la).2⟩⟩
  rcases hd e he re de with z | z
  · exact (h6 e a he re la).1 z ck
  · exact (h6 e a he re la).2 (by rw [z, h2]; omega)
section MD
variable {X : SX} {d g D W : Nat} {h : HH} {Q : Int32 → HH → Prop} {f t : Nat → Nat} {p cp sp pt : Nat → Int}
/-- what the model reads for a load -/
def MdH (h : HH) (f t : Nat → Nat) (p : Nat → Int) (W D g : Nat) : Prop :=
  W ≤ 12 ∧ D ≤ 6 ∧ g < D ∧ h.1 57 31 = nI W ∧ h.1 57 1 = nI D ∧ ∀ w, w < W → f w < D ∧ t w < D ∧ f w ≠ t w ∧ h.1 80 w = nI (f w) ∧ h.1 81 w = nI (t w) ∧ (h.1 83 w).toInt = p w ∧ 1 ≤ p w ∧ p w ≤ 99
def frM (h H : HH) : Prop := (∀ r, r ≠ 90 → r ≠ 91 → H.1 r = h.1 r) ∧ H.2 = h.2
def byI (e : Nat) : Int32 := if e < 12 then nI e else if e < 24 then nI (88 + e) else -1
def DM (H : HH) (lab : Nat → Option Int) (pd : Nat → Nat) (c : Int) (D : Nat) : Prop :=
  ∀ v, v < D → (lab v = none ∧ H.1 90 v = 1000000000) ∨ ∃ a, lab v = some a ∧ (H.1 90 v).toInt = a ∧ -c ≤ a ∧ a ≤ c ∧ H.1 91 v = byI (pd v)
theorem DM_mono {H : HH} {lab : Nat → Option Int} {pd : Nat → Nat} {c c' : Int} (S : DM H lab pd c D) (hc : c ≤ c') : DM H lab pd c' D := fun v hv => by
  rcases S v hv with z | ⟨a, a1, a2, a3, a4, a5⟩
  · exact Or.inl z
  · exact Or.inr ⟨a, a1, a2, by omega, by omega, a5⟩
theorem FARm : (1000000000 : Int32).toInt = 1000000000 := by decide
theorem reaches_c {H : HH} {a b e : Nat} {m y : Int32} {lab : Nat → Option Int} {pd : Nat → Nat} {c s : Int} (D6 : D ≤ 6) (fr : frM h H) (S : DM H lab pd c D) (ha : a < D) (hb : b < D) (hm : m.toInt = s) (hs : -99 ≤ s ∧ s ≤ 99) (hy : y = byI e) (hc : 0 ≤ c) (hc2 : c ≤ 100000000)
    (t : ∀ x H', lab a = some x → ¬ (∃ b', lab b = some b' ∧ b' ≤ x + s) → frM h H' → DM H' (fun v => if v = b then some (x + s) else lab v) (fun v => if v = b then e else pd v) (c + 99) D → Q 0 H') (f : (∀ x, lab a = some x → ∃ b', lab b = some b' ∧ b' ≤ x + s) → Q 0 H) : E X d FM_reaches 0 [.ref 57, .int (nI a), .int (nI b), .int m, .int y] [] H Q := by
  have F1 := FARm
  have S1 := S a ha
  have S2 := S b hb
  have sum : ∀ x, lab a = some x → (H.1 90 a + m).toInt = x + s ∧ -c ≤ x ∧ x ≤ c := fun x hx => by
    rcases S1 with ⟨z, _⟩ | ⟨x', b1, b2, b3, b4, _⟩
    · rw [z] at hx; cases hx
    · rw [b1] at hx; cases hx
      exact ⟨by rw [i32_add (by rw [b2, hm]; omega) (by rw [b2, hm]; omega), b2, hm], b3, b4⟩
  refine (FM_reaches_0 (FM_reaches_1 (FM_reaches_4 (FM_reaches_5n (by first | assumption | exact rfl) (by omega) (FM_reaches_6 (FM_reaches_9 (fun c9 => (FM_reaches_51 ?_)) (fun c9 => (FM_reaches_12 (FM_reaches_13 (FM_reaches_16 (FM_reaches_17n (by first | assumption | exact rfl) (by omega) (FM_reaches_18 (FM_reaches_19 (FM_reaches_20 (FM_reaches_21 (FM_reaches_24 (FM_reaches_25n (by first | assumption | exact rfl) (by omega) (FM_reaches_26 (fun c26 => (FM_reaches_51 ?_)) (fun c26 => (FM_reaches_29 (FM_reaches_30 (FM_reaches_33 (FM_reaches_34 (FM_reaches_35 (FM_reaches_38 (FM_reaches_39n (by first | assumption | exact rfl) (by omega) (FM_reaches_40 (FM_reaches_41 (FM_reaches_42n (by first | assumption | exact rfl) (by omega) (FM_reaches_43 (FM_reaches_44 (FM_reaches_47 (FM_reaches_48 (FM_reaches_50n (by first | assumption | exact rfl) (by omega) (FM_reaches_51 ?_)))))))))))))))))))))))))))))))))))
  · have z := (fa_le _ _).mp c9
    refine f (fun x hx => ?_)
    obtain ⟨-, z2, z3⟩ := sum x hx
    rcases S1 with ⟨y, _⟩ | ⟨x', b1, b2, b3, b4, _⟩
    · rw [y] at hx; cases hx
    · rw [b2, F1] at z
      rw [b1] at hx; cases hx; omega
  · have z := (fa_le _ _).mp c26
    refine f (fun x hx => ?_)
    obtain ⟨z1, z2, z3⟩ := sum x hx
    rw [z1] at z
    rcases S2 with ⟨y1, y2⟩ | ⟨b', y1, y2, _⟩
    · rw [y2, F1] at z; omega
    · exact ⟨b', y1, by omega⟩
  · have z : ¬ (H.1 90 b).toInt ≤ (H.1 90 a + m).toInt := fun y => c26 ((fa_le _ _).mpr y)
    have z0 : ¬ (1000000000 : Int32).toInt ≤ (H.1 90 a).toInt := fun y => c9 ((fa_le _ _).mpr y)
    rcases S1 with ⟨y1, y2⟩ | ⟨x, b1, b2, b3, b4, _⟩
    · rw [y2] at z0; omega
    · obtain ⟨z1, z2, z3⟩ := sum x b1
      rw [z1] at z
      refine t x _ b1 (fun ⟨b', o1, o2⟩ => ?_) ⟨fun r h1 h2 => by rw [pI_r h2, pI_r h1]; exact fr.1 r h1 h2, fr.2⟩ (fun v hv => ?_)
      · rcases S2 with ⟨y1, y2⟩ | ⟨b'', y1, y2, _⟩
        · rw [y1] at o1; cases o1
        · rw [y1] at o1; cases o1; omega
      · simp only [pI1, true_and]
        by_cases y : v = b
        · subst y
          right
          refine ⟨x + s, if_pos rfl, ?_, by omega, by omega, ?_⟩
          · rw [if_neg (by omega), if_pos rfl]; exact z1
          · rw [if_pos rfl, if_pos rfl]; exact hy
        · rw [if_neg y, if_neg y, if_neg y, if_neg (show ¬ (90 = 91 ∧ v = b) by omega), if_neg (show ¬ (91 = 90 ∧ v = b) by omega), if_neg y]
          rcases S v hv with w | ⟨b0, w1, w2, w3, w4, w5⟩
          · exact Or.inl w
          · exact Or.inr ⟨b0, w1, w2, by omega, by omega, w5⟩
def erM (f t : Nat → Nat) (cp sp : Nat → Int) (W D g : Nat) (x z : Nat → Int) (e : Nat) : Prop := 0 < rs cp sp W D x z e ∧ eU f t e ≠ g
/-- the rows that a search reads -/
def TM (h : HH) (cp sp : Nat → Int) (W D g : Nat) (x z : Nat → Int) : Prop := (∀ w, w < W → (h.1 87 w).toInt = cp w ∧ (h.1 88 w).toInt = x w) ∧ ∀ d, d < D → d ≠ g → (h.1 89 d).toInt = sp d - z d
def dnF (w e : Nat) : Prop := e < w ∨ (12 ≤ e ∧ e < 12 + w) ∨ 24 ≤ e
def dnB (w e : Nat) : Prop := e < w + 1 ∨ (12 ≤ e ∧ e < 12 + w) ∨ 24 ≤ e
theorem findFar_b {x z : Nat → Int} {k w : Nat} {r : Int32} {H : HH} {lab : Nat → Option Int} {pd : Nat → Nat} {ch : Bool} {c : Int} (M : MdH h f t p W D g) (T : TM h cp sp W D g x z) (N : Net (eU f t) (eV f t) (eC p) (erM f t cp sp W D g x z) pt D) (hw : w < W) (hk : 1 ≤ k) (fr : frM h H) (S : DM H lab pd c D) (hc : 0 ≤ c) (hc2 : c ≤ 1000000) (B : BI (eU f t) (eV f t) (eC p) (erM f t cp sp W D g x z) pt D k ch (dnB w) lab pd)
    (K : ∀ H lab pd ch, frM h H → DM H lab pd (c + 99) D → BI (eU f t) (eV f t) (eC p) (erM f t cp sp W D g x z) pt D k ch (dnF (w + 1)) lab pd → E X (d + 1) FM_findFar 62 [.ref 57, .int (nI g), .int r, .int (nI (w + 1))] [] H Q) : E X (d + 1) FM_findFar 118 [.ref 57, .int (nI g), .int r, .int (nI w)] [] H Q := by
  obtain ⟨W12, D6, gD, hW, hD, en⟩ := M
  obtain ⟨T1, T2⟩ := T
  obtain ⟨f1, f2, f3, f4, f5, f6, f7, f8⟩ := en w hw
  obtain ⟨t1, t2⟩ := T1 w hw
  have x80 : H.1 80 w = nI (f w) := by rw [fr.1 80 (by omega) (by omega)]; exact f4
  have x81 : H.1 81 w = nI (t w) := by rw [fr.1 81 (by omega) (by omega)]; exact f5
  have x83 : (H.1 83 w).toInt = p w := by rw [fr.1 83 (by omega) (by omega)]; exact f6
  have x88 : (H.1 88 w).toInt = x w := by rw [fr.1 88 (by omega) (by omega)]; exact t2
  have eu : eU f t (12 + w) = t w := eU_b (by omega)
  have ev : eV f t (12 + w) = f w := eV_b (by omega)
  have ec : eC p (12 + w) = - p w := eC_b (by omega)
  have er : rs cp sp W D x z (12 + w) = x w := rs_b hw W12
  have dn : ∀ y, dnF (w + 1) y → dnB w y ∨ y = 12 + w := fun y hy => by unfold dnF at hy; unfold dnB; omega
  have i0 : (0 : Int32).toInt = 0 := by decide
  refine (FM_findFar_118 (FM_findFar_119 (FM_findFar_122 (FM_findFar_123n (by first | assumption | exact rfl) (by omega) (FM_findFar_124 (fun c124 => (FM_findFar_164 (FM_findFar_167 ?_))) (fun c124 => (FM_findFar_127 (FM_findFar_128 (FM_findFar_131 (FM_findFar_132n (by first | assumption | exact rfl) (by omega) (FM_findFar_133 (FM_findFar_134 (fun c134 => (FM_findFar_164 (FM_findFar_167 ?_))) (fun c134 => (FM_findFar_137 (FM_findFar_138 (FM_findFar_139 (FM_findFar_142 (FM_findFar_143n (by first | assumption | exact rfl) (by omega) (FM_findFar_144 (FM_findFar_145 (FM_findFar_148 (FM_findFar_149n (by first | assumption | exact rfl) (by omega) (FM_findFar_150 (FM_findFar_151 (FM_findFar_154 (FM_findFar_155n (by first | assumption | exact rfl) (by omega) (FM_findFar_156 (FM_findFar_157 (FM_findFar_159 (FM_findFar_160 (FM_findFar_161 (Nat.le_of_ble_eq_true rfl) ?_)))))))))))))))))))))))))))))))
  · have q := (fa_le _ _).mp c124
    rw [i0, x88] at q
    rw [nI_1]
    exact K H lab pd ch fr (DM_mono S (by omega)) (BI_skip (e := 12 + w) B dn (fun e => by have := e.1; omega))
  · rw [x81] at c134
    have q : t w = g := (eqN rfl rfl (by omega) (by omega)).mp c134
    rw [nI_1]
    exact K H lab pd ch fr (DM_mono S (by omega)) (BI_skip (e := 12 + w) B dn (fun e => absurd (eu.trans q) e.2))
  · have q : ¬ (H.1 88 w).toInt ≤ (0 : Int32).toInt := fun y => c124 ((fa_le _ _).mpr y)
    rw [i0, x88] at q
    have re : erM f t cp sp W D g x z (12 + w) := ⟨by omega, fun y => c134 (by rw [x81, ← y, eu])⟩
    rw [x81, x80]
    refine reaches_c (e := 12 + w) (s := - p w) D6 fr S f2 f1 (by rw [Int32.toInt_neg, x83]; exact Int.bmod_eq_of_le (by omega) (by omega)) (by omega) ?_ hc (by omega) (fun a H' la no fr' S' => ?_) (fun ok => ?_)
    · unfold byI
      rw [if_neg (by omega), if_pos (by omega), show (100 : Int32) = nI 100 from rfl, nI_add]
      congr 1; omega
    · refine (FM_findFar_164 (FM_findFar_167 ?_))
      rw [nI_1]
      refine K H' _ _ true fr' S' (BI_relax N B (by omega) re (by rw [eu]; exact la) (by unfold nOk; rw [ev, ec]; exact no) hk rfl dn (by rw [ev, ec]; exact if_pos rfl) (fun v hv => by rw [ev] at hv; exact if_neg hv) (by rw [ev]; exact if_pos rfl) (fun v hv => by rw [ev] at hv; exact if_neg hv))
    · refine (FM_findFar_164 (FM_findFar_167 ?_))
      rw [nI_1]
      exact K H lab pd ch fr (DM_mono S (by omega)) (BI_skip (e := 12 + w) B dn (fun _ a la => by unfold nOk; rw [ev, ec]; rw [eu] at la; exact ok a la))
theorem findFar_i {x z : Nat → Int} {k r : Nat} (M : MdH h f t p W D g) (T : TM h cp sp W D g x z) (N : Net (eU f t) (eV f t) (eC p) (erM f t cp sp W D g x z) pt D) (hk : 1 ≤ k) (hr : r < 6)
    (K : ∀ H lab pd ch, frM h H → DM H lab pd (198 * (12 * (r + 1 : Nat))) D → BI (eU f t) (eV f t) (eC p) (erM f t cp sp W D g x z) pt D k ch (dnF W) lab pd → E X (d + 1) FM_findFar 52 [.ref 57, .int (nI g), .int (nI (r + 1)), .int (nI W)] [] H Q) :
    ∀ (n w : Nat) (H : HH) (lab : Nat → Option Int) (pd : Nat → Nat) (ch : Bool), w + n = W → frM h H → DM H lab pd (198 * (12 * (r : Nat) + (w : Nat))) D → BI (eU f t) (eV f t) (eC p) (erM f t cp sp W D g x z) pt D k ch (dnF w) lab pd → E X (d + 1) FM_findFar 62 [.ref 57, .int (nI g), .int (nI r), .int (nI w)] [] H Q := by
  have M0 := M
  obtain ⟨W12, D6, gD, hW, hD, en⟩ := M
  intro n
  induction n with
  | zero =>
    intro w H lab pd ch hw fr S B
    obtain rfl : w = W := by omega
    have x31 : H.1 57 31 = nI w := by rw [fr.1 57 (by omega) (by omega)]; exact hW
    refine (FM_findFar_62 (FM_findFar_63 (FM_findFar_64 (FM_findFar_67 (fun c67 => (FM_findFar_170 (FM_findFar_173 ?_))) (fun c67 => ?_)))))
    · rw [nI_1]
      exact K H lab pd ch fr (DM_mono S (by omega)) B
    all_goals (rw [x31] at c67; exact absurd (Int32.le_refl _) c67)
  | succ n ih =>
    intro w H lab pd ch hw fr S B
    have hwW : w < W := by omega
    have x31 : H.1 57 31 = nI W := by rw [fr.1 57 (by omega) (by omega)]; exact hW
    obtain ⟨f1, f2, f3, f4, f5, f6, f7, f8⟩ := en w hwW
    obtain ⟨t1, t2⟩ := T.1 w hwW
    have x80 : H.1 80 w = nI (f w) := by rw [fr.1 80 (by omega) (by omega)]; exact f4
    have x81 : H.1 81 w = nI (t w) := by rw [fr.1 81 (by omega) (by omega)]; exact f5
    have x83 : (H.1 83 w).toInt = p w := by rw [fr.1 83 (by omega) (by omega)]; exact f6
    have x87 : (H.1 87 w).toInt = cp w := by rw [fr.1 87 (by omega) (by omega)]; exact t1
    have x88 : (H.1 88 w).toInt = x w := by rw [fr.1 88 (by omega) (by omega)]; exact t2
    have eu : eU f t w = f w := eU_f (by omega)
    have ev : eV f t w = t w := eV_f (by omega)
    have ec : eC p w = p w := eC_f (by omega)
    have er : rs cp sp W D x z w = cp w - x w := rs_f hwW W12
    have dn : ∀ y, dnB w y → dnF w y ∨ y = w := fun y hy => by unfold dnB at hy; unfold dnF; omega
    have nx : ∀ H lab pd ch c, c ≤ 198 * (12 * (r : Int) + (w : Int)) + 99 → 0 ≤ c → frM h H → DM H lab pd c D → BI (eU f t) (eV f t) (eC p) (erM f t cp sp W D g x z) pt D k ch (dnB w) lab pd → E X (d + 1) FM_findFar 118 [.ref 57, .int (nI g), .int (nI r), .int (nI w)] [] H Q := fun H lab pd ch c c1 c0 fr S B =>
      findFar_b M0 T N hwW hk fr S c0 (by omega) B (fun H' lab' pd' ch' fr' S' B' => ih (w + 1) H' lab' pd' ch' (by omega) fr' (DM_mono S' (by omega)) B')
    refine (FM_findFar_62 (FM_findFar_63 (FM_findFar_64 (FM_findFar_67 (fun c67 => (FM_findFar_170 (FM_findFar_173 ?_))) (fun c67 => (FM_findFar_70 (FM_findFar_71 (FM_findFar_74 (FM_findFar_75n (by first | assumption | exact rfl) (by omega) (FM_findFar_76 (FM_findFar_77 (FM_findFar_80 (FM_findFar_81n (by first | assumption | exact rfl) (by omega) (FM_findFar_82 (fun c82 => ?_) (fun c82 => (FM_findFar_85 (FM_findFar_86 (FM_findFar_89 (FM_findFar_90n (by first | assumption | exact rfl) (by omega) (FM_findFar_91 (FM_findFar_92 (fun c92 => ?_) (fun c92 => (FM_findFar_95 (FM_findFar_96 (FM_findFar_97 (FM_findFar_100 (FM_findFar_101n (by first | assumption | exact rfl) (by omega) (FM_findFar_102 (FM_findFar_103 (FM_findFar_106 (FM_findFar_107n (by first | assumption | exact rfl) (by omega) (FM_findFar_108 (FM_findFar_109 (FM_findFar_112 (FM_findFar_113n (by first | assumption | exact rfl) (by omega) (FM_findFar_114 (FM_findFar_115 (Nat.le_of_ble_eq_true rfl) ?_)))))))))))))))))))))))))))))))))))))
    · rw [x31] at c67
      exact absurd ((leN rfl rfl (by omega) (by omega)).mp c67) (by omega)
    · have q := (fa_le _ _).mp c82
      rw [x87, x88] at q
      exact nx H lab pd ch _ (by omega) (by omega) fr S (BI_skip (e := w) B dn (fun e => by have := e.1; omega))
    · rw [x80] at c92
      have q : f w = g := (eqN rfl rfl (by omega) (by omega)).mp c92
      exact nx H lab pd ch _ (by omega) (by omega) fr S (BI_skip (e := w) B dn (fun e => absurd (eu.trans q) e.2))
    · have q : ¬ (H.1 87 w).toInt ≤ (H.1 88 w).toInt := fun y => c82 ((fa_le _ _).mpr y)
      rw [x87, x88] at q
      have re : erM f t cp sp W D g x z w := ⟨by omega, fun y => c92 (by rw [x80, ← y, eu])⟩
      rw [x81, x80]
      refine reaches_c (e := w) (s := p w) D6 fr S f1 f2 x83 (by omega) ?_ (by omega) (by omega) (fun a H' la no fr' S' => ?_) (fun ok => ?_)
      · unfold byI
        rw [if_pos (by omega)]
      · exact nx H' _ _ true _ (Int.le_refl _) (by omega) fr' S' (BI_relax N B (by omega) re (by rw [eu]; exact la) (by unfold nOk; rw [ev, ec]; exact no) hk rfl dn (by rw [ev, ec]; exact if_pos rfl) (fun v hv => by rw [ev] at hv; exact if_neg hv) (by rw [ev]; exact if_pos rfl) (fun v hv => by rw [ev] at hv; exact if_neg hv))
      · exact nx H lab pd ch _ (by omega) (by omega) fr S (BI_skip (e := w) B dn (fun _ a la => by unfold nOk; rw [ev, ec]; rw [eu] at la; exact ok a la))
theorem findFar_o {x z : Nat → Int} (M : MdH h f t p W D g) (T : TM h cp sp W D g x z) (N : Net (eU f t) (eV f t) (eC p) (erM f t cp sp W D g x z) pt D)
    (K : ∀ H lab pd rk, frM h H → DM H lab pd 20000 D → Conv (eU f t) (eV f t) (eC p) (erM f t cp sp W D g x z) pt D lab pd rk → Q 0 H) :
    ∀ (n r : Nat) (H : HH) (lab : Nat → Option Int) (pd : Nat → Nat) (ch : Bool) (a3 : Value), r + n = D → frM h H → DM H lab pd (198 * (12 * (r : Nat))) D → BI (eU f t) (eV f t) (eC p) (erM f t cp sp W D g x z) pt D (r + 1) ch (fun _ => True) lab pd → E X (d + 1) FM_findFar 52 [.ref 57, .int (nI g), .int (nI r), a3] [] H Q := by
  have M0 := M
  obtain ⟨W12, D6, gD, hW, hD, en⟩ := M
  intro n
  induction n with
  | zero =>
    intro r H lab pd ch a3 hr fr S B
    obtain rfl : r = D := by omega
    have x1 : H.1 57 1 = nI r := by rw [fr.1 57 (by omega) (by omega)]; exact hD
    obtain ⟨rk, C⟩ := BI_conv N B (fun _ _ _ => trivial) (Or.inr (Nat.le_refl _))
    refine (FM_findFar_52 (FM_findFar_53 (FM_findFar_54 (FM_findFar_57 (fun c57 => (FM_findFar_176 ?_)) (fun c57 => (FM_findFar_60 (FM_findFar_61 ?_)))))))
    · exact K H lab pd rk fr (DM_mono S (by omega)) C
    · rw [x1] at c57; exact absurd (Int32.le_refl _) c57
  | succ n ih =>
    intro r H lab pd ch a3 hr fr S B
    have x1 : H.1 57 1 = nI D := by rw [fr.1 57 (by omega) (by omega)]; exact hD
    refine (FM_findFar_52 (FM_findFar_53 (FM_findFar_54 (FM_findFar_57 (fun c57 => (FM_findFar_176 ?_)) (fun c57 => (FM_findFar_60 (FM_findFar_61 ?_)))))))
    · rw [x1] at c57
      exact absurd ((leN rfl rfl (by omega) (by omega)).mp c57) (by omega)
    · have B2 := BI_next B (fun _ _ _ => trivial)
      refine findFar_i (r := r) (k := r + 2) M0 T N (by omega) (by omega) (fun H' lab' pd' ch' fr' S' B' => ?_) W 0 H lab pd false (by omega) fr (DM_mono S (by omega)) (BI_src B2 (by omega) (fun e he re de => ?_))
      · refine ih (r + 1) H' lab' pd' ch' _ (by omega) fr' S' (BI_src B' (by omega) (fun e he re _ => Or.inl ?_))
        unfold dnF
        rcases rs_cs re.1 with ⟨w, w1, w2, rfl⟩ | ⟨w, w1, w2, rfl⟩ | ⟨w, w1, rfl⟩ <;> omega
      · right
        unfold dnF at de
        exact (show eU f t e = 6 by unfold eU; rw [if_neg (by omega), if_neg (by omega)])
end MD
