-- THE SEMANTIC LAYER: Ev, a walk of a method over an abstract heap (lay: kinds of the cells, h: their numbers); refs are small ids
abbrev MI : Type := MethodName × ByteArray × Nat × Option FieldType
abbrev LC : Type := (Nat × List (Option (Option Nat))) ⊕ (Nat × Nat)
abbrev HH : Type := (Nat → Nat → Int32) × (Nat → Nat → Int64)
abbrev MSt : Type := List LC × HH
abbrev SX : Type := Nat × (Nat → Int32)
def tr (ad : Nat → Nat) : Value → Value
  | .ref i => .ref (ad i)
  | v => v
def fv (ad : Nat → Nat) (h : HH) (i k : Nat) : Option (Option Nat) → Value
  | none => .int (h.1 i k)
  | some none => .null
  | some (some j) => .ref (ad j)
def ca (h : HH) (i t : Nat) : (Nat → Int32) ⊕ (Nat → Int64) ⊕ (Nat → UInt32) ⊕ (Nat → UInt64) ⊕ (Nat → Option Nat) := match t with
  | 1 => .inr (.inl (h.2 i))
  | _ => .inl (h.1 i)
def ce (ad : Nat → Nat) (cA : Nat → ClassId) (h : HH) (i : Nat) : LC → va_E
  | .inl (ci, ks) => .inr (ci, (List.range ks.length).map (fun k => fv ad h i k (ks.getD k none)))
  | .inr (t, n) => .inl (cA t, n, ca h i t)
def wl (ad : Nat → Nat) (cA : Nat → ClassId) (lay : List LC) (h : HH) : va_W := (List.range lay.length).map (fun i => (ad i, ce ad cA h i (lay.getD i (.inr (0, 0)))))
def pI (h : HH) (i k : Nat) (v : Int32) : HH := (fun a b => if a = i ∧ b = k then v else h.1 a b, h.2)
def pL (h : HH) (i k : Nat) (v : Int64) : HH := (h.1, fun a b => if a = i ∧ b = k then v else h.2 a b)
/-- a fresh row -/
def zR (h : HH) (i : Nat) : HH := (fun a b => if a = i then 0 else h.1 a b, fun a b => if a = i then 0 else h.2 a b)
/-- a row copied -/
def cR (h : HH) (i j sp dp n : Nat) : HH := (fun a b => if a = j then va_cpy (h.1 i) (h.1 j) sp dp n b else h.1 a b, h.2)
theorem wl_len {ad : Nat → Nat} {cA : Nat → ClassId} {lay : List LC} {h : HH} : (wl ad cA lay h).length = lay.length := by simp [wl]
theorem wl_get {ad : Nat → Nat} {cA : Nat → ClassId} {lay : List LC} {h : HH} {i : Nat} {c : LC} (hc : lay[i]? = some c) : (wl ad cA lay h)[i]? = some (ad i, ce ad cA h i c) := by
  obtain ⟨hi, he⟩ := List.getElem?_eq_some_iff.mp hc
  simp [wl, hi]
  rw [he]
theorem wl_set {ad : Nat → Nat} {cA : Nat → ClassId} {lay lay' : List LC} {h h' : HH} {i : Nat} {c' : LC} {x : va_E} (hl : lay' = lay.set i c') (hx : ce ad cA h' i c' = x) (hi : i < lay.length)
    (ho : ∀ j, j ≠ i → h'.1 j = h.1 j ∧ h'.2 j = h.2 j) : (wl ad cA lay h).set i (ad i, x) = wl ad cA lay' h' := by
  subst hl
  apply List.ext_getElem?
  intro j
  by_cases hj : j = i
  · subst hj
    simp [wl, hi, hx]
  · rw [List.getElem?_set_ne (Ne.symm hj)]
    simp only [wl, List.length_set, List.getElem?_map, List.getElem?_range]
    by_cases hjl : j < lay.length
    · have h1 : (lay.set i c').getD j (.inr (0, 0)) = lay.getD j (.inr (0, 0)) := by simp [List.getElem?_set_ne (Ne.symm hj)]
      have h2 : ∀ cc : LC, ce ad cA h' j cc = ce ad cA h j cc := by
        intro cc
        obtain ⟨e1, e2⟩ := ho j hj
        cases cc with
        | inl o => obtain ⟨ci, ks⟩ := o; simp only [ce]; congr 3; funext k; unfold fv; rw [e1]
        | inr o => obtain ⟨t, n⟩ := o; simp only [ce, ca, e1, e2]
      simp only [List.getElem?_range hjl, Option.map_some, h1, h2]
    · simp [List.getElem?_eq_none (show (List.range lay.length).length ≤ j by simpa using hjl)]
theorem ce_ad {ad ad' : Nat → Nat} {cA : Nat → ClassId} {h : HH} {i : Nat} {c : LC} (hv : ∀ ci ks, c = .inl (ci, ks) → ∀ j, some (some j) ∈ ks → ad' j = ad j) : ce ad' cA h i c = ce ad cA h i c := by
  cases c with
  | inl o =>
    obtain ⟨ci, ks⟩ := o
    simp only [ce]
    congr 2
    apply List.map_congr_left
    intro k hk
    have hk : k < ks.length := List.mem_range.mp hk
    have : ks.getD k none ∈ ks := by simp [hk]
    cases hq : ks.getD k none with
    | none => rfl
    | some z => cases z with
      | none => rfl
      | some j => simp only [fv]; rw [hv ci ks rfl j (by rw [← hq]; exact this)]
  | inr o => rfl
/-- which ids the cells name -/
def okc (n : Nat) : LC → Bool
  | .inl (_, ks) => ks.all (fun q => match q with | some (some j) => decide (j < n) || decide (1000 ≤ j) | _ => true)
  | _ => true
def okl (lay : List LC) : Bool := lay.all (okc lay.length)
def okv (n : Nat) : Value → Bool
  | .ref i => decide (i < n) || decide (1000 ≤ i)
  | _ => true
def isU : Value → Bool
  | .float _ => true
  | _ => false
abbrev U0 : Value := .float 0
/-- locals -/
def lr (ad : Nat → Nat) (ls : Array Slot) (n : Nat) (L : List Value) : Prop := ls.size = n ∧ lv_wf ls ∧ ∀ (i : Nat) (v : Value), L[i]? = some v → isU v = false → ls[i]? = some (.val (tr ad v))
def asc (ad : Nat → Nat) (L : List Value) : List (Nat × Value) := (L.zipIdx.filter (fun q => !isU q.1)).map (fun q => (q.2, tr ad q.1))
theorem asc_mem {ad : Nat → Nat} {L : List Value} {q : Nat × Value} : q ∈ asc ad L ↔ ∃ v, L[q.1]? = some v ∧ isU v = false ∧ q.2 = tr ad v := by
  unfold asc
  simp only [List.mem_map, List.mem_filter, Bool.not_eq_true']
  constructor
  · rintro ⟨⟨v, i⟩, ⟨h1, h2⟩, rfl⟩
    have := List.mem_zipIdx_iff_getElem?.mp h1
    exact ⟨v, by simpa using this, h2, rfl⟩
  · rintro ⟨v, h1, h2, h3⟩
    refine ⟨(v, q.1), ⟨List.mem_zipIdx_iff_getElem?.mpr (by simpa using h1), h2⟩, ?_⟩
    rw [← h3]
theorem lr_has {ad : Nat → Nat} {ls : Array Slot} {n : Nat} {L : List Value} : lr ad ls n L ↔ lv_has ls n (asc ad L) := by
  constructor
  · intro h
    refine ⟨h.1, h.2.1, fun q hq => ?_⟩
    obtain ⟨v, h1, h2, h3⟩ := asc_mem.mp hq
    rw [h3]; exact h.2.2 q.1 v h1 h2
  · intro h
    exact ⟨h.1, h.2.1, fun i v h1 h2 => h.2.2 (i, tr ad v) (asc_mem.mpr ⟨v, h1, h2, rfl⟩)⟩
theorem lr_at {ad : Nat → Nat} {ls : Array Slot} {n : Nat} {L : List Value} (h : lr ad ls n L) {i : Nat} {v : Value} (hv : L[i]? = some v) (hu : isU v = false) : ls[i]? = some (.val (tr ad v)) := h.2.2 i v hv hu
/-- no long ends at i -/
def ok1 (L : List Value) : Nat → Bool
  | 0 => true
  | j + 1 => match L[j]? with | some (.long _) => false | some (.double _) => false | _ => true
theorem tr_cat (ad : Nat → Nat) (v : Value) : (tr ad v).category = v.category := by cases v <;> rfl
theorem lr_set1 {ad : Nat → Nat} {ls' : Array Slot} {n : Nat} {L : List Value} {i : Nat} {x : Value} (hx : x.category = 1) (hk : ok1 L i = true)
    (h : lv_has ls' n ((i, tr ad x) :: (asc ad L).filter (fun q => !(q.1 == i) && !(q.1 + 1 == i && q.2.category == 2)))) : lr ad ls' n (L.set i x) := by
  refine ⟨h.1, h.2.1, fun j v h1 h2 => ?_⟩
  by_cases hj : j = i
  · subst hj
    rw [List.getElem?_set_self (by have := (List.getElem?_eq_some_iff.mp h1).1; simpa using this)] at h1
    cases h1
    exact h.2.2 (j, tr ad x) List.mem_cons_self
  · rw [List.getElem?_set_ne (Ne.symm hj)] at h1
    refine h.2.2 (j, tr ad v) (List.mem_cons_of_mem _ (List.mem_filter.mpr ⟨asc_mem.mpr ⟨v, h1, h2, rfl⟩, ?_⟩))
    have e1 : (j == i) = false := by simpa using hj
    simp only [e1, Bool.not_false, Bool.true_and, tr_cat]
    by_cases hq : j + 1 = i
    · subst hq
      simp only [ok1, h1] at hk
      cases v <;> simp_all [Value.category]
    · have : (j + 1 == i) = false := by simpa using hq
      simp [this]
theorem lr_set2 {ad : Nat → Nat} {ls' : Array Slot} {n : Nat} {L : List Value} {i : Nat} {x : Int64} (hk : ok1 L i = true)
    (h : lv_has ls' n ((i, Value.long x) :: (asc ad L).filter (fun q => !(q.1 == i) && (!(q.1 == i + 1) && !(q.1 + 1 == i && q.2.category == 2))))) : lr ad ls' n ((L.set i (.long x)).set (i + 1) U0) := by
  refine ⟨h.1, h.2.1, fun j v h1 h2 => ?_⟩
  by_cases hj1 : j = i + 1
  · subst hj1
    rw [List.getElem?_set_self (by have := (List.getElem?_eq_some_iff.mp h1).1; simpa using this)] at h1
    cases h1
    cases h2
  rw [List.getElem?_set_ne (Ne.symm hj1)] at h1
  by_cases hj : j = i
  · subst hj
    rw [List.getElem?_set_self (by have := (List.getElem?_eq_some_iff.mp h1).1; simpa using this)] at h1
    cases h1
    exact h.2.2 (j, Value.long x) List.mem_cons_self
  · rw [List.getElem?_set_ne (Ne.symm hj)] at h1
    refine h.2.2 (j, tr ad v) (List.mem_cons_of_mem _ (List.mem_filter.mpr ⟨asc_mem.mpr ⟨v, h1, h2, rfl⟩, ?_⟩))
    have e1 : (j == i) = false := by simpa using hj
    have e2 : (j == i + 1) = false := by simpa using hj1
    simp only [e1, e2, Bool.not_false, Bool.true_and, tr_cat]
    by_cases hq : j + 1 = i
    · subst hq
      simp only [ok1, h1] at hk
      cases v <;> simp_all [Value.category]
    · have : (j + 1 == i) = false := by simpa using hq
      simp [this]
/-- the locals at a method's entry -/
def enl : List Value → List Value
  | [] => []
  | v :: vs => if v.category = 2 then v :: U0 :: enl vs else v :: enl vs
def entl (vs : List Value) (n : Nat) : List Value := enl vs ++ List.replicate (n - (enl vs).length) U0
theorem enl_args {ad : Nat → Nat} (vs : List Value) : ∀ (k i : Nat) (v : Value), (enl vs)[i]? = some v → isU v = false → (k + i, tr ad v) ∈ lv_args k (vs.map (tr ad)) := by
  induction vs with
  | nil => intro k i v h; simp [enl] at h
  | cons w ws ih =>
    intro k i v h hu
    simp only [List.map_cons, lv_args, tr_cat]
    by_cases hc : w.category = 2
    · rw [enl, if_pos hc] at h
      rw [if_pos hc]
      match i, h with
      | 0, h => simp at h; subst h; simp
      | 1, h => simp at h; subst h; cases hu
      | i + 2, h =>
        simp at h
        have := ih (k + 2) i v h hu
        rw [show k + (i + 2) = k + 2 + i by omega]
        exact List.mem_cons_of_mem _ this
    · rw [enl, if_neg hc] at h
      rw [if_neg hc]
      match i, h with
      | 0, h => simp at h; subst h; simp
      | i + 1, h =>
        simp at h
        have := ih (k + 1) i v h hu
        rw [show k + (i + 1) = k + 1 + i by omega]
        exact List.mem_cons_of_mem _ this
theorem enl_len (ad : Nat → Nat) (vs : List Value) : (lg_sl (vs.map (tr ad))).length = (enl vs).length := by
  induction vs with
  | nil => rfl
  | cons w ws ih =>
    simp only [List.map_cons, lg_sl, List.flatMap_cons, tr_cat, List.length_append] at *
    by_cases hc : w.category = 2
    · simp [enl, hc, ih]; omega
    · simp [enl, hc, ih]; omega
theorem lr_entry (ad : Nat → Nat) (vs : List Value) {n : Nat} (h : (enl vs).length ≤ n) : lr ad ((lg_sl (vs.map (tr ad)) ++ List.replicate (n - (lg_sl (vs.map (tr ad))).length) Slot.unset).toArray) n (entl vs n) := by
  have hl := lv_entry (vs.map (tr ad)) (n := n) (by rw [enl_len]; exact h)
  refine ⟨hl.1, hl.2.1, fun i v h1 h2 => ?_⟩
  unfold entl at h1
  by_cases hi : i < (enl vs).length
  · rw [List.getElem?_append_left hi] at h1
    have := enl_args (ad := ad) vs 0 i v h1 h2
    rw [Nat.zero_add] at this
    exact hl.2.2 _ this
  · rw [List.getElem?_append_right (by omega), List.getElem?_replicate] at h1
    split at h1
    · cases h1; cases h2
    · cases h1
