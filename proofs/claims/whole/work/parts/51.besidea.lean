theorem kn_z {h : HH} {S w c : Nat} {p : Nat} (hw : w ≤ c) (hc : c < 2 ^ 31) (ht : ∀ k, k < S → isN (h.1 69 k) 0 w) : ∀ n, n ≤ S → kn h (nI c) p n = kn h (nI w) p n
  | 0, _ => rfl
  | n + 1, hn => by
    obtain ⟨j, -, j2, je⟩ := ht n (by omega)
    have e1 : h.1 69 n ≤ nI c := (leN je rfl (by omega) hc).mpr (by omega)
    have e2 : h.1 69 n ≤ nI w := (leN je rfl (by omega) (by omega)).mpr j2
    simp only [kn, e1, e2, kn_z hw hc ht n (by omega)]
theorem tB_z {h : HH} {S w c dd c2 : Nat} (hw : w ≤ c) (hc : c < 2 ^ 31) (ht : ∀ k, k < S → isN (h.1 69 k) 0 w) : tB h S dd c2 (nI c) = tB h S dd c2 (nI w) := by
  have hv : ∀ pl sp, tv h S pl (nI c) c2 sp = tv h S pl (nI w) c2 sp := fun pl sp => by
    funext i
    simp only [tv, kn_z hw hc ht S (Nat.le_refl _)]
  funext l
  simp only [tB, hv]
theorem obF {h : HH} {S L dd c w : Nat} {F g : Int32} (hL : L ≤ 12) (hw : w ≤ c) (hc : c < 2 ^ 31) (ht : ∀ k, k < S → isN (h.1 69 k) 0 w) (hF : ∀ i, i < L → bt F i = ((!decide (nI i = g)) && iF h (nI w) i)) : kb (h.1 71) (bt (F &&& bset (hP (tB h S dd c (nI c)) (h.1 77)) L)) L = ob h S L (nI w) g c (nI w) dd := by
  refine kb_cg L (fun i hi => ⟨?_, rfl⟩)
  rw [b_and, hF i hi, bt_bset L (by omega) (by omega), decide_eq_true hi, Bool.true_and, tB_z hw hc ht, oP, Bool.and_assoc]
def dmS (o : Nat → Nat → Int32) (wg : Int32) (s : EC) (D : Nat) : Nat → EC × Int32
  | 0 => (s, 0)
  | k + 1 => ((wkS (o k) wg (dmS o wg s D k).1 D).1, (dmS o wg s D k).2 + (wkS (o k) wg (dmS o wg s D k).1 D).2)
theorem dmS_ok {o : Nat → Nat → Int32} {wg : Int32} {s : EC} {D d : Nat} (hw : isN wg 0 99) (hk : eOk s d) : ∀ n, eOk (dmS o wg s D n).1 d
  | 0 => hk
  | n + 1 => wkS_ok hw (dmS_ok hw hk n) D
/-! sums over districts and classes -/
def smC (f : Nat → Int32) (k : Nat) : Nat → Int32
  | 0 => 0
  | n + 1 => smC f k n + f (n * 15 + (k + 0)) + f (n * 15 + (k + 1)) + f (n * 15 + (k + 2))
theorem smC_cg {f g : Nat → Int32} {k : Nat} : ∀ n, (∀ d c, d < n → c < 3 → f (d * 15 + (k + c)) = g (d * 15 + (k + c))) → smC f k n = smC g k n
  | 0, _ => rfl
  | n + 1, e => by
    unfold smC
    rw [smC_cg n (fun d c hd hc => e d c (by omega) hc), e n 0 (by omega) (by omega), e n 1 (by omega) (by omega), e n 2 (by omega) (by omega)]
section LK
variable {d c : Nat} {s : EC} {g wg kk : Int32}
theorem eA_L {q : Nat} (hq : q < 3) : (eA s d kk wg).1 (d * 15 + (9 + q)) = s.1 (d * 15 + (9 + q)) := by
  have hl : ∀ t : EC, (eLoan t d kk).1 (d * 15 + (9 + q)) = t.1 (d * 15 + (9 + q)) := fun t => by
    unfold eLoan; split
    · exact (up_ne (by omega)).trans (up_ne (by omega))
    · rfl
  have hr : ∀ t : EC, (eRem t d kk).1 (d * 15 + (9 + q)) = t.1 (d * 15 + (9 + q)) := fun t => by
    unfold eRem; split
    · exact up_ne (by omega)
    · rfl
  have hp : ∀ (t : EC) (c : Nat), c < 3 → (ePay t d kk wg c).1 (d * 15 + (9 + q)) = t.1 (d * 15 + (9 + q)) := fun t c hc => up_ne (by omega)
  unfold eA
  rw [hl, hr, hp _ _ (by omega), hp _ _ (by omega), hp _ _ (by omega)]
  exact up_ne (by omega)
theorem eIt_L {q : Nat} (hq : q < 3) (hc : c < 3) : (eIt s d c g).1 (d * 15 + (9 + q)) = if q = c then s.1 (d * 15 + (9 + q)) + eMs s d c g else s.1 (d * 15 + (9 + q)) := by
  simp only [eIt, eSuf, eBuy]
  by_cases z : q = c
  · subst z
    rw [if_pos rfl, up_ne (by omega), up_ne (by omega), up_at, up_ne (by omega), up_ne (by omega)]
  · rw [if_neg z, up_ne (by omega), up_ne (by omega), up_ne (by omega), up_ne (by omega), up_ne (by omega)]
theorem eLive_sum : ∀ n, smC (eLive s d kk wg).1 9 n = if d < n then smC s.1 9 n + eLack s d kk wg else smC s.1 9 n
  | 0 => rfl
  | n + 1 => by
    unfold smC
    rw [eLive_sum n]
    by_cases z : d = n
    · subst z
      rw [if_neg (by omega), if_pos (by omega)]
      simp only [eLive, eIt_L (show 0 < 3 by omega) (show 0 < 3 by omega), eIt_L (show 1 < 3 by omega) (show 0 < 3 by omega), eIt_L (show 2 < 3 by omega) (show 0 < 3 by omega), eIt_L (show 0 < 3 by omega) (show 1 < 3 by omega), eIt_L (show 1 < 3 by omega) (show 1 < 3 by omega), eIt_L (show 2 < 3 by omega) (show 1 < 3 by omega), eIt_L (show 0 < 3 by omega) (show 2 < 3 by omega), eIt_L (show 1 < 3 by omega) (show 2 < 3 by omega), eIt_L (show 2 < 3 by omega) (show 2 < 3 by omega), eA_L (show 0 < 3 by omega), eA_L (show 1 < 3 by omega), eA_L (show 2 < 3 by omega)]
      simp only [eLack, if_pos, show ¬ (1 = 0) by omega, show ¬ (2 = 0) by omega, show ¬ (0 = 1) by omega, show ¬ (2 = 1) by omega, show ¬ (0 = 2) by omega, show ¬ (1 = 2) by omega, if_false, Int32.zero_add]
      ac_rfl
    · have fr : ∀ q, q < 15 → (eLive s d kk wg).1 (n * 15 + q) = s.1 (n * 15 + q) := fun q hq => eLive_p (fun r hr _ => by omega)
      rw [fr (9 + 0) (by omega), fr (9 + 1) (by omega), fr (9 + 2) (by omega)]
      by_cases y : d < n
      · rw [if_pos y, if_pos (by omega)]; ac_rfl
      · rw [if_neg y, if_neg (by omega)]
theorem wkS_sum {o : Nat → Int32} {D : Nat} : ∀ n, n ≤ D → smC (wkS o wg s n).1.1 9 D = smC s.1 9 D + (wkS o wg s n).2
  | 0, _ => (Int32.add_zero _).symm
  | n + 1, hn => by
    show smC (eLive (wkS o wg s n).1 n (o n) wg).1 9 D = _ + ((wkS o wg s n).2 + eLack (wkS o wg s n).1 n (o n) wg)
    rw [eLive_sum, if_pos (by omega), wkS_sum n (by omega), Int32.add_assoc]
theorem dmS_sum {o : Nat → Nat → Int32} {D : Nat} : ∀ n, smC (dmS o wg s D n).1.1 9 D = smC s.1 9 D + (dmS o wg s D n).2
  | 0 => (Int32.add_zero _).symm
  | n + 1 => by
    show smC (wkS (o n) wg (dmS o wg s D n).1 D).1.1 9 D = _ + ((dmS o wg s D n).2 + _)
    rw [wkS_sum D (Nat.le_refl _), dmS_sum n, Int32.add_assoc]
end LK
