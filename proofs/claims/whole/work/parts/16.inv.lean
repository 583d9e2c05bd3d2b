/-! THE INVARIANT between the class's cells and the model's (id 57 and its arrays) -/
theorem vpS {x : Int32} {k N : Nat} (e : x = nI k) (hk : k < N) (hN : N < 2 ^ 31) : vp_in x N := by rw [e]; exact vp_in_nI hk hN
def iLand (h : HH) (o D S P E C B L X u v : Nat) : Prop :=
  (∀ d, d < 6 → h.1 (o + 1) (d * 15 + 0) = h.1 S (u + d) ∧ h.1 (o + 1) (d * 15 + 1) = h.1 P (u + d) ∧ h.1 (o + 1) (d * 15 + 8) = h.1 B (u + d)) ∧
  (∀ d c, d < 6 → c < 3 → h.1 (o + 1) (d * 15 + (2 + c)) = h.1 E (v + (3 * d + c)) ∧ h.1 (o + 1) (d * 15 + (5 + c)) = h.1 C (v + (3 * d + c)) ∧ h.1 (o + 1) (d * 15 + (9 + c)) = h.1 L (v + (3 * d + c)) ∧ h.1 (o + 1) (d * 15 + (12 + c)) = h.1 X (v + (3 * d + c))) ∧
  (∀ d, d < D → isN (h.1 S (u + d)) 0 99999 ∧ isN (h.1 P (u + d)) 1 99) ∧ (∀ d c, d < D → c < 3 → isN (h.1 E (v + (3 * d + c))) 0 999 ∧ isN (h.1 C (v + (3 * d + c))) 0 99999)
def plc (h : HH) (k : Nat) : Nat := ((h.1 66 k).toNatClampNeg * 4 + (h.1 67 k).toNatClampNeg) * 61 + (h.1 68 k).toNatClampNeg
/-- one more than the number of the latest sign of place p among the first n, or 0 -/
def lst (h : HH) : Nat → Nat → Nat
  | 0, _ => 0
  | n + 1, p => if plc h n = p then n + 1 else lst h n p
def iSigns (h : HH) (o S w : Nat) : Prop :=
  S ≤ 200 ∧ h.1 o 4 = nI S ∧ (∀ k, k < S → isLt (h.1 66 k) 6 ∧ isLt (h.1 67 k) 4 ∧ isN (h.1 68 k) 0 60 ∧ isN (h.1 69 k) 0 w ∧ inI (h.1 70 k) (-99) 99 ∧ h.1 (o + 1) k = h.1 70 k ∧ h.1 (o + 2) k = h.1 69 k ∧ h.1 (o + 3) k = nI (lst h k (plc h k))) ∧ ∀ p, p < 1464 → h.1 (o + 4) p = nI (lst h S p)
def iLines (h : HH) (o L en : Nat) : Prop :=
  L ≤ 12 ∧ h.1 o 1 = nI L ∧ ∀ l, l < L → (isN (h.1 71 l) 0 5 ∧ isN (h.1 72 l) 0 3 ∧ isN (h.1 73 l) 1 4 ∧ isN (h.1 74 l) 0 2 ∧ isN (h.1 76 l) 0 1 ∧ (h.1 77 l = -1 ∨ isLt (h.1 77 l) l) ∧ isN (h.1 78 l) 0 60 ∧ (h.1 en l = -1 ∨ isN (h.1 en l) 0 60)) ∧
    h.1 (o + 1) (l * 9 + 0) = h.1 71 l ∧ h.1 (o + 1) (l * 9 + 1) = h.1 72 l ∧ h.1 (o + 1) (l * 9 + 2) = h.1 73 l ∧ h.1 (o + 1) (l * 9 + 3) = h.1 74 l ∧ h.1 (o + 1) (l * 9 + 4) = h.1 75 l ∧ h.1 (o + 1) (l * 9 + 5) = h.1 76 l ∧ h.1 (o + 1) (l * 9 + 6) = h.1 77 l ∧ h.1 (o + 1) (l * 9 + 7) = h.1 78 l ∧ h.1 (o + 1) (l * 9 + 8) = h.1 en l
def iWays (h : HH) (o W D : Nat) : Prop :=
  W ≤ 12 ∧ h.1 o 4 = nI W ∧ ∀ w, w < W → (isLt (h.1 80 w) D ∧ isLt (h.1 81 w) D ∧ ¬ h.1 80 w = h.1 81 w ∧ isN (h.1 82 w) 1 999 ∧ isN (h.1 83 w) 1 99) ∧ h.1 (o + 1) w = h.1 80 w ∧ h.1 (o + 2) w = h.1 81 w ∧ h.1 (o + 3) w = h.1 82 w ∧ h.1 (o + 4) w = h.1 83 w
def iWorks (h : HH) (o K : Nat) : Prop :=
  K ≤ 8 ∧ h.1 o 3 = nI K ∧ ∀ k, k < K → (isLt (h.1 84 k) 6 ∧ isN (h.1 85 k) 1 999 ∧ isN (h.1 86 k) 0 99) ∧ h.1 (o + 1) k = h.1 84 k ∧ h.1 (o + 2) k = h.1 85 k ∧ h.1 (o + 3) k = h.1 86 k
def iWas (h : HH) (a b : Nat) : Prop := ∀ k, k < 360 → h.1 a k = h.1 b k
def iAct (h : HH) : Prop := ∃ r : Nat, r ≤ 50 ∧ h.1 51 1 = nI r ∧ h.1 57 59 = nI r ∧ ∀ i, i < r → h.1 52 i = h.1 103 i
def iSheet (h : HH) : Prop := (∀ s, s < 4 → h.1 54 s = h.1 104 s ∧ (h.1 104 s = -1 ∨ isN (h.1 104 s) 0 2) ∧ isN (h.1 105 s) 0 40 ∧ h.1 55 s = h.1 105 s) ∧ ∀ k, k < 160 → h.1 56 k = h.1 106 k
def iKept (h : HH) (S L W K : Nat) : Prop :=
  h.1 0 6 = h.1 57 53 ∧ (h.1 57 53 = 0 ∨ h.1 57 53 = 1 ∧ ∃ D' w' S' L' W' K' : Nat, D' ≤ 6 ∧ w' ≤ 60 ∧ S' ≤ S ∧ L' ≤ L ∧ W' ≤ W ∧ K' ≤ K ∧
    h.1 22 1 = nI D' ∧ h.1 100 0 = nI D' ∧ h.1 21 6 = nI w' ∧ h.1 100 1 = nI w' ∧ h.1 22 2 = h.1 100 2 ∧ isN (h.1 100 2) 0 99 ∧ h.1 100 3 = nI S' ∧ h.1 100 4 = nI L' ∧ h.1 100 5 = nI W' ∧ h.1 100 6 = nI K' ∧
    h.1 22 3 = h.1 99 3 ∧ h.1 22 4 = h.1 99 4 ∧ h.1 22 5 = h.1 99 5 ∧
    iLand h 22 D' 92 93 94 95 96 97 98 6 18 ∧ iSigns h 24 S' w' ∧ iLines h 29 L' 101 ∧ iWays h 31 W' D' ∧ iWorks h 36 K' ∧ iWas h 40 102)
def iCnt (h : HH) (D w S L W K : Nat) : Prop :=
  D ≤ 6 ∧ w ≤ 60 ∧ h.1 2 1 = nI D ∧ h.1 57 1 = nI D ∧ h.1 1 6 = nI w ∧ h.1 57 10 = nI w ∧ h.1 2 2 = h.1 57 11 ∧ isN (h.1 57 11) 0 99 ∧ h.1 2 3 = h.1 57 12 ∧ h.1 2 4 = h.1 57 13 ∧ h.1 2 5 = h.1 57 14 ∧
  h.1 57 15 = nI S ∧ h.1 57 21 = nI L ∧ h.1 57 31 = nI W ∧ h.1 57 36 = nI K
def iMisc (h : HH) : Prop := h.1 0 8 = h.1 57 0 ∧ ∃ b : Nat, b ≤ 10 ∧ h.1 0 7 = nI b ∧ h.1 57 54 = nI b
def InvP (h : HH) (D w S L W K : Nat) : Prop :=
  iMisc h ∧ iCnt h D w S L W K ∧ iLand h 2 D 58 59 60 61 62 63 64 0 0 ∧ iSigns h 4 S w ∧ iLines h 9 L 79 ∧ iWays h 11 W D ∧ iWorks h 16 K ∧ iWas h 20 65 ∧ iAct h ∧ iSheet h ∧ iKept h S L W K
def Inv (h : HH) : Prop := ∃ D w S L W K : Nat, InvP h D w S L W K
