/-! ===== the objects of the law's run: numbers, kinds, references that stay ===== -/
def shL : List (Nat × Nat) := [(4, 0), (7, 7),
  (2, 0), (9, 10), (0, 0), (0, 0), (0, 0), (0, 0), (0, 0), (0, 0), (0, 0), (0, 0), (0, 0), (0, 0),
  (2, 0), (9, 10), (0, 0), (0, 0), (0, 0), (0, 0), (0, 0), (0, 0), (0, 0), (0, 0), (0, 0), (0, 0),
  (2, 0), (9, 10), (0, 0), (0, 0), (0, 0), (0, 0), (0, 0), (0, 0), (0, 0), (0, 0), (0, 0), (0, 0),
  (3, 0), (6, 120), (10, 4), (1, 0), (8, 40), (1, 0), (8, 40), (1, 0), (8, 40), (1, 0), (8, 40),
  (5, 0), (7, 77), (7, 7), (7, 10), (7, 10), (7, 77), (7, 120), (7, 4), (7, 4), (8, 160), (8, 40), (7, 77), (7, 77)]
def shF (a : Nat) : Nat × Nat := shL.getD a (99, 0)
/-- the final references -/
def rfF (a k : Nat) : Option Nat :=
  if a = 0 then (if k = 0 then some 1 else if k = 1 then some 2 else if k = 2 then some 14 else if k = 3 then some 26 else if k = 5 then some 38 else if k = 6 then some 40 else none)
  else if a = 2 then (if k = 7 then some 3 else none) else if a = 14 then (if k = 7 then some 15 else none) else if a = 26 then (if k = 7 then some 27 else none)
  else if a = 38 then (if k = 0 then some 39 else none)
  else if a = 40 then (if k = 0 then some 41 else if k = 1 then some 43 else if k = 2 then some 45 else if k = 3 then some 47 else none)
  else if a = 41 then (if k = 2 then some 42 else none) else if a = 43 then (if k = 2 then some 44 else none) else if a = 45 then (if k = 2 then some 46 else none) else if a = 47 then (if k = 2 then some 48 else none)
  else if a = 49 then (if k = 0 then some 50 else if k = 1 then some 51 else if k = 2 then some 52 else if k = 3 then some 53 else if k = 5 then some 54 else if k = 6 then some 55 else if k = 14 then some 56 else if k = 15 then some 57 else if k = 16 then some 58 else if k = 17 then some 59 else if k = 18 then some 60 else if k = 19 then some 61 else none)
  else none
/-- a square's row: ten persons of its own, each once -/
def SqR (R : Nat → Nat → Option Nat) (q : Nat) : Prop := (∀ j, j < 10 → ∃ r, R (q + 1) j = some r ∧ q + 2 ≤ r ∧ r < q + 12) ∧ ∀ i j, i < 10 → j < 10 → R (q + 1) i = R (q + 1) j → i = j
def InvR (x : (Nat → Nat → Option Nat) × (Nat → Nat × Nat) × Nat) : Prop := (∀ a, a < 62 → x.2.1 a = shF a) ∧ x.2.2 = 62 ∧ (∀ a k r, rfF a k = some r → x.1 a k = some r) ∧ SqR x.1 2 ∧ SqR x.1 14 ∧ SqR x.1 26
def Inv (h : Hp) : Prop := InvR h.2.2
def Sqr (q : Nat) : Prop := q = 2 ∨ q = 14 ∨ q = 26
/-- who stands at a place -/
def pn (h : Hp) (q j : Nat) : Nat := (hR h (q + 1) j).getD 0
/-- what the one at a place has -/
def pf (h : Hp) (q j f : Nat) : Int32 := hI h (pn h q j) f
section InvRows
variable {h : Hp} {q a t n : Nat}
theorem is_lit (hv : Inv h) (ha : a < 62) (hs : shF a = (t, n)) : Is h a t n := ⟨by rw [show hN h = 62 from hv.2.1]; exact ha, (hv.1 a ha).trans hs, by omega⟩
theorem sh_per : ∀ r, r < 62 → (4 ≤ r ∧ r < 14 ∨ 16 ≤ r ∧ r < 26 ∨ 28 ≤ r ∧ r < 38) → shF r = (0, 0) := by decide
theorem is_sq (hv : Inv h) (hq : Sqr q) : Is h q 2 0 := by
  rcases hq with rfl | rfl | rfl <;> exact is_lit hv (by decide) rfl
theorem is_row (hv : Inv h) (hq : Sqr q) : Is h (q + 1) 9 10 := by
  rcases hq with rfl | rfl | rfl <;> exact is_lit hv (by decide) rfl
theorem rf (hv : Inv h) {k r : Nat} (hr : rfF a k = some r) : hR h a k = some r := hv.2.2.1 a k r hr
theorem rf_row (hv : Inv h) (hq : Sqr q) : hR h q 7 = some (q + 1) := by
  rcases hq with rfl | rfl | rfl <;> exact rf hv rfl
theorem SqR.of (hv : Inv h) (hq : Sqr q) : SqR (hR h) q := by
  rcases hq with rfl | rfl | rfl
  · exact hv.2.2.2.1
  · exact hv.2.2.2.2.1
  · exact hv.2.2.2.2.2
theorem rf_pn (hv : Inv h) (hq : Sqr q) {j : Nat} (hj : j < 10) : hR h (q + 1) j = some (pn h q j) := by
  obtain ⟨r, h1, -⟩ := (SqR.of hv hq).1 j hj
  unfold pn
  rw [h1]
  rfl
theorem pn_in (hv : Inv h) (hq : Sqr q) {j : Nat} (hj : j < 10) : q + 2 ≤ pn h q j ∧ pn h q j < q + 12 := by
  obtain ⟨r, h1, h2⟩ := (SqR.of hv hq).1 j hj
  have : pn h q j = r := Option.some.inj ((rf_pn hv hq hj).symm.trans h1)
  rw [this]
  exact h2
theorem pn_inj (hv : Inv h) (hq : Sqr q) {i j : Nat} (hi : i < 10) (hj : j < 10) (e : pn h q i = pn h q j) : i = j :=
  (SqR.of hv hq).2 i j hi hj (by rw [rf_pn hv hq hi, rf_pn hv hq hj, e])
theorem is_pr (hv : Inv h) (hq : Sqr q) {r : Nat} (h1 : q + 2 ≤ r) (h2 : r < q + 12) : Is h r 0 0 := by
  have h3 : r < 62 ∧ (4 ≤ r ∧ r < 14 ∨ 16 ≤ r ∧ r < 26 ∨ 28 ≤ r ∧ r < 38) := by rcases hq with rfl | rfl | rfl <;> omega
  exact is_lit hv h3.1 (sh_per r h3.1 h3.2)
theorem is_pn (hv : Inv h) (hq : Sqr q) {j : Nat} (hj : j < 10) : Is h (pn h q j) 0 0 := is_pr hv hq (pn_in hv hq hj).1 (pn_in hv hq hj).2
theorem rf_nI (hv : Inv h) (hq : Sqr q) {j : Nat} (hj : j < 10) : hR h (q + 1) (nI j).toNatClampNeg = some (pn h q j) := by rw [nI_clamp (by omega)]; exact rf_pn hv hq hj
end InvRows
