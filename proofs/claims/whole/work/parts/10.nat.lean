def isN (x : Int32) (l m : Nat) : Prop := ∃ j : Nat, l ≤ j ∧ j ≤ m ∧ x = nI j
def isLt (x : Int32) (m : Nat) : Prop := ∃ j : Nat, j < m ∧ x = nI j
theorem isN_of {x a b : Int32} {l m : Nat} (e1 : a = nI l) (e2 : b = nI m) (h1 : l < 2 ^ 31) (h2 : m < 2 ^ 31) : inI x a b ↔ isN x l m := by
  subst e1; subst e2
  constructor
  · intro h
    have a1 := (fa_le _ _).mp h.1
    have a2 := (fa_le _ _).mp h.2
    rw [nI_toInt h1] at a1
    rw [nI_toInt h2] at a2
    refine ⟨x.toInt.toNat, by omega, by omega, ?_⟩
    apply (fa_eq _ _).mpr
    rw [nI_toInt (by omega)]
    omega
  · rintro ⟨j, h3, h4, rfl⟩
    refine ⟨(fa_le _ _).mpr ?_, (fa_le _ _).mpr ?_⟩ <;> rw [nI_toInt (by omega), nI_toInt (by omega)] <;> omega
theorem isLt_of {x c : Int32} {D : Nat} (e : c = nI D) (hD : D < 2 ^ 31) : inI x 0 (c - 1) ↔ isLt x D := by
  subst e
  match D, hD with
  | 0, _ =>
    constructor
    · intro h
      have a1 := (fa_le _ _).mp h.1
      have a2 := (fa_le _ _).mp h.2
      have e0 : (nI 0 - 1).toInt = -1 := by decide
      have e1 : (0 : Int32).toInt = 0 := by decide
      omega
    · rintro ⟨j, h, -⟩
      omega
  | D + 1, hD =>
    rw [show nI (D + 1) - 1 = nI D by rw [← nI_1]; simp]
    rw [isN_of (a := 0) (l := 0) (m := D) (show (0 : Int32) = nI 0 from rfl) rfl (by omega) (by omega)]
    constructor
    · rintro ⟨j, -, h2, h3⟩; exact ⟨j, by omega, h3⟩
    · rintro ⟨j, h2, h3⟩; exact ⟨j, by omega, by omega, h3⟩
theorem nI_inj {a b : Nat} (h : nI a = nI b) (ha : a < 2 ^ 31) (hb : b < 2 ^ 31) : a = b := (nI_eq ha hb).mp h
section B10
variable {X : SX} {d D : Nat} {h : HH} {Q : Int32 → HH → Prop}
theorem FC_within_n {x a b : Int32} {l m : Nat} (e1 : a = nI l) (e2 : b = nI m) (h1 : l < 2 ^ 31) (h2 : m < 2 ^ 31) (t : ∀ j, l ≤ j → j ≤ m → x = nI j → Q 1 h) (f : ¬ isN x l m → Q 0 h) : E X d FC_within 0 [.int x, .int a, .int b] [] h Q :=
  FC_within_c (fun z => by obtain ⟨j, a1, a2, a3⟩ := (isN_of e1 e2 h1 h2).mp z; exact t j a1 a2 a3) (fun z => f (fun y => z ((isN_of e1 e2 h1 h2).mpr y)))
theorem FM_in_n {x a b : Int32} {l m : Nat} (e1 : a = nI l) (e2 : b = nI m) (h1 : l < 2 ^ 31) (h2 : m < 2 ^ 31) (t : ∀ j, l ≤ j → j ≤ m → x = nI j → Q 1 h) (f : ¬ isN x l m → Q 0 h) : E X d FM_in 0 [.int x, .int a, .int b] [] h Q :=
  FM_in_c (fun z => by obtain ⟨j, a1, a2, a3⟩ := (isN_of e1 e2 h1 h2).mp z; exact t j a1 a2 a3) (fun z => f (fun y => z ((isN_of e1 e2 h1 h2).mpr y)))
theorem FC_isDistrict_n {a : Int32} (hD : h.1 2 1 = nI D) (h6 : D ≤ 6) (t : ∀ j, j < D → a = nI j → Q 1 h) (f : ¬ isLt a D → Q 0 h) : E X (d + 1) FC_isDistrict 0 [.ref 0, .int a] [] h Q :=
  FC_isDistrict_c (fun z => by obtain ⟨j, a1, a2⟩ := (isLt_of hD (by omega)).mp z; exact t j a1 a2) (fun z => f (fun y => z ((isLt_of hD (by omega)).mpr y)))
theorem FM_isDistrict_n {a : Int32} (hD : h.1 57 1 = nI D) (h6 : D ≤ 6) (t : ∀ j, j < D → a = nI j → Q 1 h) (f : ¬ isLt a D → Q 0 h) : E X (d + 1) FM_isDistrict 0 [.ref 57, .int a] [] h Q :=
  FM_isDistrict_c (fun z => by obtain ⟨j, a1, a2⟩ := (isLt_of hD (by omega)).mp z; exact t j a1 a2) (fun z => f (fun y => z ((isLt_of hD (by omega)).mpr y)))
theorem FC_isLine_n {a : Int32} (hD : h.1 9 1 = nI D) (h6 : D ≤ 12) (t : ∀ j, j < D → a = nI j → Q 1 h) (f : ¬ isLt a D → Q 0 h) : E X (d + 1) FC_isLine 0 [.ref 0, .int a] [] h Q :=
  FC_isLine_c (fun z => by obtain ⟨j, a1, a2⟩ := (isLt_of hD (by omega)).mp z; exact t j a1 a2) (fun z => f (fun y => z ((isLt_of hD (by omega)).mpr y)))
theorem FM_isLine_n {a : Int32} (hD : h.1 57 21 = nI D) (h6 : D ≤ 12) (t : ∀ j, j < D → a = nI j → Q 1 h) (f : ¬ isLt a D → Q 0 h) : E X (d + 1) FM_isLine 0 [.ref 57, .int a] [] h Q :=
  FM_isLine_c (fun z => by obtain ⟨j, a1, a2⟩ := (isLt_of hD (by omega)).mp z; exact t j a1 a2) (fun z => f (fun y => z ((isLt_of hD (by omega)).mpr y)))
theorem FC_isClass_n {a : Int32} (t : ∀ j, j ≤ 2 → a = nI j → Q 1 h) (f : ¬ isN a 0 2 → Q 0 h) : E X (d + 1) FC_isClass 0 [.int a] [] h Q :=
  FC_isClass_c (fun z => by obtain ⟨j, -, a1, a2⟩ := (isN_of (l := 0) (m := 2) rfl rfl (by omega) (by omega)).mp z; exact t j a1 a2) (fun z => f (fun y => z ((isN_of (l := 0) (m := 2) rfl rfl (by omega) (by omega)).mpr y)))
theorem FC_isSort_n {a : Int32} (t : ∀ j, j ≤ 3 → a = nI j → Q 1 h) (f : ¬ isN a 0 3 → Q 0 h) : E X (d + 1) FC_isSort 0 [.int a] [] h Q :=
  FC_isSort_c (fun z => by obtain ⟨j, -, a1, a2⟩ := (isN_of (l := 0) (m := 3) rfl rfl (by omega) (by omega)).mp z; exact t j a1 a2) (fun z => f (fun y => z ((isN_of (l := 0) (m := 3) rfl rfl (by omega) (by omega)).mpr y)))
theorem FC_isKind_n {a : Int32} (t : ∀ j, j ≤ 5 → a = nI j → Q 1 h) (f : ¬ isN a 0 5 → Q 0 h) : E X (d + 1) FC_isKind 0 [.int a] [] h Q :=
  FC_isKind_c (fun z => by obtain ⟨j, -, a1, a2⟩ := (isN_of (l := 0) (m := 5) rfl rfl (by omega) (by omega)).mp z; exact t j a1 a2) (fun z => f (fun y => z ((isN_of (l := 0) (m := 5) rfl rfl (by omega) (by omega)).mpr y)))
theorem FC_isAnyWeek_n {a : Int32} (t : ∀ j, j ≤ 60 → a = nI j → Q 1 h) (f : ¬ isN a 0 60 → Q 0 h) : E X (d + 1) FC_isAnyWeek 0 [.int a] [] h Q :=
  FC_isAnyWeek_c (fun z => by obtain ⟨j, -, a1, a2⟩ := (isN_of (l := 0) (m := 60) rfl rfl (by omega) (by omega)).mp z; exact t j a1 a2) (fun z => f (fun y => z ((isN_of (l := 0) (m := 60) rfl rfl (by omega) (by omega)).mpr y)))
theorem FM_isWeek_n {a : Int32} (t : ∀ j, j ≤ 60 → a = nI j → Q 1 h) (f : ¬ isN a 0 60 → Q 0 h) : E X (d + 1) FM_isWeek 0 [.int a] [] h Q :=
  FM_isWeek_c (fun z => by obtain ⟨j, -, a1, a2⟩ := (isN_of (l := 0) (m := 60) rfl rfl (by omega) (by omega)).mp z; exact t j a1 a2) (fun z => f (fun y => z ((isN_of (l := 0) (m := 60) rfl rfl (by omega) (by omega)).mpr y)))
theorem FC_isSheet_n {a : Int32} (t : ∀ j, j ≤ 3 → a = nI j → Q 1 h) (f : ¬ isN a 0 3 → Q 0 h) : E X (d + 1) FC_isSheet 0 [.int a] [] h Q :=
  FC_isSheet_c (fun z => by obtain ⟨j, -, a1, a2⟩ := (isN_of (l := 0) (m := 3) rfl rfl (by omega) (by omega)).mp z; exact t j a1 a2) (fun z => f (fun y => z ((isN_of (l := 0) (m := 3) rfl rfl (by omega) (by omega)).mpr y)))
theorem FC_isSheetSort_n {a : Int32} (t : ∀ j, j ≤ 2 → a = nI j → Q 1 h) (f : ¬ isN a 0 2 → Q 0 h) : E X (d + 1) FC_isSheetSort 0 [.int a] [] h Q :=
  FC_isSheetSort_c (fun z => by obtain ⟨j, -, a1, a2⟩ := (isN_of (l := 0) (m := 2) rfl rfl (by omega) (by omega)).mp z; exact t j a1 a2) (fun z => f (fun y => z ((isN_of (l := 0) (m := 2) rfl rfl (by omega) (by omega)).mpr y)))
theorem FM_isClass_n {a b : Int32} (hD : h.1 57 1 = nI D) (h6 : D ≤ 6) (t : ∀ j c, j < D → c ≤ 2 → a = nI j → b = nI c → Q 1 h) (f : ¬ (isLt a D ∧ isN b 0 2) → Q 0 h) : E X (d + 2) FM_isClass 0 [.ref 57, .int a, .int b] [] h Q :=
  FM_isClass_c (fun z => by
    obtain ⟨j, a1, a2⟩ := (isLt_of hD (by omega)).mp z.1
    obtain ⟨c, -, a3, a4⟩ := (isN_of (l := 0) (m := 2) rfl rfl (by omega) (by omega)).mp z.2
    exact t j c a1 a3 a2 a4) (fun z => f (fun y => z ⟨(isLt_of hD (by omega)).mpr y.1, (isN_of (l := 0) (m := 2) rfl rfl (by omega) (by omega)).mpr y.2⟩))
theorem La_get_e {o a b : Nat} {x z : Int32} (ho : isLa o) (e1 : x = nI a) (e2 : z = nI b) (ha : a < 6) (hb : b < 15) (k : Q (h.1 (o + 1) (a * 15 + b)) h) : E X d La_get 0 [.ref o, .int x, .int z] [] h Q := by
  subst e1; subst e2; exact La_get_c ho ha hb k
theorem La_put_e {o a b : Nat} {x z v : Int32} (ho : isLa o) (e1 : x = nI a) (e2 : z = nI b) (ha : a < 6) (hb : b < 15) (k : Q (h.1 (o + 1) (a * 15 + b)) (pI h (o + 1) (a * 15 + b) v)) : E X (d + 1) La_put 0 [.ref o, .int x, .int z, .int v, U0] [] h Q := by
  subst e1; subst e2; exact La_put_c ho ha hb k
theorem La_more_e {o a b : Nat} {x z v : Int32} (ho : isLa o) (e1 : x = nI a) (e2 : z = nI b) (ha : a < 6) (hb : b < 15) (k : Q 0 (pI h (o + 1) (a * 15 + b) (h.1 (o + 1) (a * 15 + b) + v))) : E X (d + 2) La_more 0 [.ref o, .int x, .int z, .int v] [] h Q := by
  subst e1; subst e2; exact La_more_c ho ha hb k
theorem isLa2 : isLa 2 := ⟨rfl, rfl⟩
theorem isLa41 : isLa 41 := ⟨rfl, rfl⟩
end B10
