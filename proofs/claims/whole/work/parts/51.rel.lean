/-! ===== what holds between the class and the reference, from call to call ===== -/
/-- the class's sheets are the reference's -/
def ShE (h : Hp) : Prop := ∀ s, s < 4 → hI h 56 s = hI h (41 + 2 * s) 0 ∧ hI h 57 s = hI h (41 + 2 * s) 1 ∧ ∀ j, j < 40 → hL h 58 (40 * s + j) = hL h (42 + 2 * s) j
/-- what was kept -/
def Kp (h : Hp) (n : Nat) (r : Nat → Int32) : Prop := Rep h 26 n r ∧ RG r n ∧ RM 60 h n r ∧ B01 (hI h 0 4) ∧ hI h 0 4 = hI h 49 20
def Fq (h : Hp) : Prop := ∀ k, k < 7 → hI h 1 k = hI h 51 k
/-- all of it -/
def LI (h : Hp) (n : Nat) (r : Nat → Int32) (T : Nat → Nat) (z n' : Nat) (r' : Nat → Int32) : Prop := Hs h n r ∧ RM 50 h n r ∧ Fq h ∧ (BT h T z ∧ MT h T z) ∧ (Shs h ∧ ShE h) ∧ Kp h n' r'
def LE (h : Hp) : Prop := ∃ n r T z n' r', LI h n r T z n' r'
/-- what stays over a call, but for the row, what was found and what is tried -/
def FX (h h2 : Hp) : Prop := h2.2.2.2 = h.2.2.2 ∧ (∀ a, (a = 0 ∨ 26 ≤ a) → h2.2.2.1 a = h.2.2.1 a) ∧ (∀ a, (a = 0 ∨ 26 ≤ a) → a ≠ 49 → a ≠ 50 → a ≠ 51 → a ≠ 52 → a ≠ 53 → a ≠ 54 → a ≠ 61 → h2.1 a = h.1 a) ∧ (∀ a, a ≠ 49 → a ≠ 59 → h2.2.1 a = h.2.1 a) ∧ h2.1 49 7 = h.1 49 7 ∧ h2.1 49 20 = h.1 49 20
theorem FX.rf {h : Hp} : FX h h := ⟨rfl, fun _ _ => rfl, fun _ _ _ _ _ _ _ _ _ => rfl, fun _ _ _ => rfl, rfl, rfl⟩
theorem FX.tr {a b c : Hp} (x : FX a b) (y : FX b c) : FX a c := ⟨y.1.trans x.1, fun q h => (y.2.1 q h).trans (x.2.1 q h), fun q h h1 h2 h3 h4 h5 h6 h7 => (y.2.2.1 q h h1 h2 h3 h4 h5 h6 h7).trans (x.2.2.1 q h h1 h2 h3 h4 h5 h6 h7), fun q h1 h2 => (y.2.2.2.1 q h1 h2).trans (x.2.2.2.1 q h1 h2), y.2.2.2.2.1.trans x.2.2.2.2.1, y.2.2.2.2.2.trans x.2.2.2.2.2⟩
/-- the class's rows of people alone -/
def FrC (h h1 : Hp) : Prop := h1.2.1 = h.2.1 ∧ h1.2.2.2 = h.2.2.2 ∧ ∀ a, (a < 2 ∨ 26 ≤ a) → h1.1 a = h.1 a ∧ h1.2.2.1 a = h.2.2.1 a
theorem FrC.fx {h h1 : Hp} (F : FrC h h1) : FX h h1 := ⟨F.2.1, fun a h => (F.2.2 a (by omega)).2, fun a h _ _ _ _ _ _ _ => (F.2.2 a (by omega)).1, fun a _ _ => by rw [F.1], by rw [(F.2.2 49 (by decide)).1], by rw [(F.2.2 49 (by decide)).1]⟩
theorem Fr.c14 {h h1 : Hp} (F : Fr 14 h h1) : FrC h h1 := ⟨F.1, F.2.1, fun a ha => F.2.2 a (by omega)⟩
theorem Fr.c2 {h h1 : Hp} (F : Fr 2 h h1) : FrC h h1 := ⟨F.1, F.2.1, fun a ha => F.2.2 a (by omega)⟩
theorem QL.fx {h h1 : Hp} (Q : QL h h1) : FX h h1 := ⟨congrArg (·.2) Q.1, fun a _ => congrFun (congrArg (·.1) Q.1) a, fun a _ h1 h2 _ h4 h5 h6 h7 => Q.2.1 a h1 h2 h4 h5 h6 h7, Q.2.2.1, Q.2.2.2.1, Q.2.2.2.2⟩
theorem FX.hfi {h : Hp} {c : Nat} : FX h (hfi h c) := ⟨rfl, fun _ _ => rfl, fun a ha _ _ _ _ _ _ _ => uI_f (by omega), fun _ _ _ => rfl, at_ua (by decide), at_ua (by decide)⟩
theorem FX.hfm {h : Hp} {c : Nat} : FX h (hfm h c) := ⟨rfl, fun _ _ => rfl, fun a ha _ _ h51 _ _ _ _ => uI_f h51, fun _ _ _ => rfl, at_ua (by decide), at_ua (by decide)⟩
theorem FX.d {h h2 : Hp} {T : Nat → Nat} {z : Nat} (X : FX h h2) (D : BT h T z ∧ MT h T z) : BT h2 T z ∧ MT h2 T z := by
  obtain ⟨⟨b1, b2, b3, b4⟩, m1, m2, m3, m4⟩ := D
  have e38 := X.2.2.1 38 (by decide) (by decide) (by decide) (by decide) (by decide) (by decide) (by decide) (by decide)
  have e39 := X.2.2.1 39 (by decide) (by decide) (by decide) (by decide) (by decide) (by decide) (by decide) (by decide)
  have e55 := X.2.2.1 55 (by decide) (by decide) (by decide) (by decide) (by decide) (by decide) (by decide) (by decide)
  exact ⟨⟨b1, by show h2.1 38 1 = _; rw [e38]; exact b2, b3, fun i hi => by show h2.1 39 i = _; rw [e39]; exact b4 i hi⟩, m1, X.2.2.2.2.1.trans m2, m3, fun i hi => by show h2.1 55 i = _; rw [e55]; exact m4 i hi⟩
theorem FX.e {h h2 : Hp} (X : FX h h2) (E : Shs h ∧ ShE h) : Shs h2 ∧ ShE h2 := by
  have e41 : ∀ s, s < 4 → h2.1 (41 + 2 * s) = h.1 (41 + 2 * s) := fun s hs => X.2.2.1 _ (by omega) (by omega) (by omega) (by omega) (by omega) (by omega) (by omega) (by omega)
  have e56 := X.2.2.1 56 (by decide) (by decide) (by decide) (by decide) (by decide) (by decide) (by decide) (by decide)
  have e57 := X.2.2.1 57 (by decide) (by decide) (by decide) (by decide) (by decide) (by decide) (by decide) (by decide)
  have l58 := X.2.2.2.1 58 (by decide) (by decide)
  have l42 : ∀ s, s < 4 → h2.2.1 (42 + 2 * s) = h.2.1 (42 + 2 * s) := fun s hs => X.2.2.2.1 _ (by omega) (by omega)
  refine ⟨fun s hs => ?_, fun s hs => ?_⟩
  · show Wb (h2.1 (41 + 2 * s) 0) ∧ ∃ z, z ≤ 40 ∧ h2.1 (41 + 2 * s) 1 = nI z
    rw [e41 s hs]
    exact E.1 s hs
  · show h2.1 56 s = h2.1 (41 + 2 * s) 0 ∧ h2.1 57 s = h2.1 (41 + 2 * s) 1 ∧ ∀ j, j < 40 → h2.2.1 58 (40 * s + j) = h2.2.1 (42 + 2 * s) j
    rw [e41 s hs, e56, e57, l58, l42 s hs]
    exact E.2 s hs
theorem rep_at {h h2 : Hp} {q n : Nat} {r : Nat → Int32} (R : Rep h q n r) (hv : Inv h) (hq : Sqr q) (e1 : ∀ a, q ≤ a → a < q + 12 → h2.1 a = h.1 a) (e2 : h2.2.2.1 (q + 1) = h.2.2.1 (q + 1)) : Rep h2 q n r := by
  obtain ⟨h1, h3, h4, h5, h6⟩ := R
  have eo := e1 q (by omega) (by omega)
  refine ⟨h1, h3, by show h2.1 q 6 = _; rw [eo]; exact h4, fun k hk => by show h2.1 q k = _; rw [eo]; exact h5 k hk, fun p f hp hf => ?_⟩
  have hi := pn_in hv hq (j := p) (by omega)
  have ep : pn h2 q p = pn h q p := by unfold pn hR; rw [e2]
  show h2.1 (pn h2 q p) f = _
  rw [ep, e1 _ (by omega) (by omega)]
  exact h6 p f hp hf
theorem FX.k {h h2 : Hp} {n : Nat} {r : Nat → Int32} (X : FX h h2) (hv : Inv h) (K : Kp h n r) : Kp h2 n r := by
  obtain ⟨k1, k2, k3, k4, k5⟩ := K
  have e0 := X.2.2.1 0 (by decide) (by decide) (by decide) (by decide) (by decide) (by decide) (by decide) (by decide)
  have e60 := X.2.2.1 60 (by decide) (by decide) (by decide) (by decide) (by decide) (by decide) (by decide) (by decide)
  refine ⟨rep_at k1 hv (Or.inr (Or.inr rfl)) (fun a h1 h3 => X.2.2.1 a (by omega) (by omega) (by omega) (by omega) (by omega) (by omega) (by omega) (by omega)) (X.2.1 27 (by decide)), k2, k3.fr e60, by show B01 (h2.1 0 4); rw [e0]; exact k4, ?_⟩
  show h2.1 0 4 = h2.1 49 20
  rw [e0, X.2.2.2.2.2]
  exact k5
theorem LE.mk {h h2 : Hp} {n z n' m : Nat} {r r' q : Nat → Int32} {T : Nat → Nat} (I : LI h n r T z n' r') (X : FX h h2) (S : Hs h2 m q) (R : RM 50 h2 m q) (C : Fq h2) : LE h2 := ⟨m, q, T, z, n', r', S, R, C, X.d I.2.2.2.1, X.e I.2.2.2.2.1, X.k I.1.1 I.2.2.2.2.2⟩
theorem Rep.ql {h h2 : Hp} {n : Nat} {r : Nat → Int32} (R : Rep h 2 n r) (hv : Inv h) (Q : QL h h2) : Rep h2 2 n r := rep_at R hv (Or.inl rfl) (fun a h1 h3 => Q.2.1 a (by omega) (by omega) (by omega) (by omega) (by omega) (by omega)) (by rw [Q.1])
theorem Fq.s {h h2 : Hp} (C : Fq h) (e1 : h2.1 1 = h.1 1) (e2 : h2.1 51 = h.1 51) : Fq h2 := fun k hk => by show h2.1 1 k = h2.1 51 k; rw [e1, e2]; exact C k hk
theorem Fq.f {h h2 : Hp} {c : Nat} (C : Fq h) (e1 : h2.1 1 = (hfi h c).1 1) (e2 : h2.1 51 = h.1 51) (hc : c < 7) : Fq (hfm h2 c) := fun k hk => by
  have a1 : hI (hfm h2 c) 1 k = hI h2 1 k := at_ua (by decide)
  have a2 : hI (hfm h2 c) 51 k = if k = c then hI h2 51 c + 1 else hI h2 51 k := at_uo
  have a3 : hI (hfi h c) 1 k = if k = c then hI h 1 c + 1 else hI h 1 k := at_uo
  rw [a1, a2]
  show h2.1 1 k = if k = c then h2.1 51 c + 1 else h2.1 51 k
  rw [e1, e2]
  show hI (hfi h c) 1 k = if k = c then hI h 51 c + 1 else hI h 51 k
  rw [a3, C k hk, C c hc]
theorem RM.c {h h1 : Hp} {n : Nat} {r : Nat → Int32} (R : RM 50 h n r) (F : FrC h h1) : RM 50 h1 n r := R.fr (F.2.2 50 (by decide)).1
theorem LI.le {h : Hp} {n z n' : Nat} {r r' : Nat → Int32} {T : Nat → Nat} (I : LI h n r T z n' r') : LE h := ⟨n, r, T, z, n', r', I⟩
section Steps
variable {h h1 h2 : Hp} {n z n' : Nat} {r r' : Nat → Int32} {T : Nat → Nat}
/-- a call that finds a fault -/
theorem LE.fnd (I : LI h n r T z n' r') {c : Nat} (hc : c < 7) : LE (hfm (hfi h c) c) := by
  have Q1 : FX h (hfm (hfi h c) c) := FX.hfi.tr FX.hfm
  have S := I.1
  have e : ∀ a, a ≠ 1 → a ≠ 51 → (hfm (hfi h c) c).1 a = h.1 a := fun a x y => (uI_f y).trans (uI_f x)
  exact LE.mk I Q1 ⟨S.1, rep_at S.2.1 S.1 s2 (fun a x y => e a (by omega) (by omega)) rfl, S.2.2⟩ (I.2.1.fr (e 50 (by decide) (by decide))) (I.2.2.1.f rfl (uI_f (by decide)) hc)
/-- a call upon the row -/
theorem LE.row (I : LI h n r T z n' r') {m : Nat} {q : Nat → Int32} (F : FrC h h1) (v1 : Inv h1) (Rc : Rep h1 2 m q) (G : RG q m) (Q : QL h1 h2) (R : RM 50 h2 m q) : LE h2 := by
  have e1 : h2.1 1 = h.1 1 := (Q.2.1 1 (by decide) (by decide) (by decide) (by decide) (by decide) (by decide)).trans (F.2.2 1 (by decide)).1
  have e2 : h2.1 51 = h.1 51 := (Q.2.1 51 (by decide) (by decide) (by decide) (by decide) (by decide) (by decide)).trans (F.2.2 51 (by decide)).1
  exact LE.mk I (F.fx.tr Q.fx) ⟨Q.inv v1, Rc.ql v1 Q, G⟩ R (I.2.2.1.s e1 e2)
/-- a call that asks -/
theorem LE.qry (I : LI h n r T z n' r') (F : Fr 14 h h1) (v1 : Inv h1) (Q : QL h1 h2) (R : RM 50 h2 n r) : LE h2 := LE.row I F.c14 v1 (I.1.fr F v1).2.1 I.1.2.2 Q R
/-- a call that asks and finds a fault -/
theorem LE.qf (I : LI h n r T z n' r') {c : Nat} (hc : c < 7) (F : Fr 14 h h1) (v1 : Inv h1) (Q : QL (hfi h1 c) h2) (R : RM 50 h2 n r) : LE (hfm h2 c) := by
  have S1 := I.1.fr F v1
  have C1 : Fq h1 := I.2.2.1.s (F.2.2 1 (by decide)).1 (F.2.2 51 (by decide)).1
  have Rf : Rep (hfi h1 c) 2 n r := rep_at S1.2.1 v1 s2 (fun a x y => uI_f (by omega)) rfl
  have R2 := Rf.ql v1 Q
  have v2 : Inv h2 := Q.inv v1
  have e1 : h2.1 1 = (hfi h1 c).1 1 := Q.2.1 1 (by decide) (by decide) (by decide) (by decide) (by decide) (by decide)
  have e2 : h2.1 51 = h1.1 51 := (Q.2.1 51 (by decide) (by decide) (by decide) (by decide) (by decide) (by decide)).trans (uI_f (by decide))
  exact LE.mk I (((F.c14.fx.tr FX.hfi).tr Q.fx).tr FX.hfm) ⟨v2, rep_at R2 v2 s2 (fun a x y => uI_f (by omega)) rfl, I.1.2.2⟩ (R.fr (uI_f (by decide))) (C1.f e1 e2 hc)
end Steps
/-- the call of the class ends; whatever it answers, the reference then answers too, and all stands again -/
def Sm (g : GG) (M M' : MM) (A : List Value) (h : Hp) : Prop := ∀ P : Option Value → Hp → Prop, (∀ (x : Int32) (h1 : Hp), Inv h1 → (∀ P' : Option Value → Hp → Prop, (∀ h2, LE h2 → P' (some (.int x)) h2) → Sp g M' (.ref 49 :: A) h1 P') → P (some (.int x)) h1) → Sp g M (.ref 0 :: A) h P
def SmL (g : GG) (M M' : MM) (A : List Value) (h : Hp) : Prop := ∀ P : Option Value → Hp → Prop, (∀ (x : Int64) (h1 : Hp), Inv h1 → (∀ P' : Option Value → Hp → Prop, (∀ h2, LE h2 → P' (some (.long x)) h2) → Sp g M' (.ref 49 :: A) h1 P') → P (some (.long x)) h1) → Sp g M (.ref 0 :: A) h P
/-! cases -/
theorem pl_or {n : Nat} (hn : n ≤ 10) (p : Int32) : (p < 0 ∨ nI n ≤ p) ∨ ∃ j, j < n ∧ p = nI j := by
  rcases sw_of p n (by omega) with e | e | e
  · exact Or.inr e
  · exact Or.inl (Or.inl (by rw [i_lt]; exact e))
  · exact Or.inl (Or.inr (by rw [i_le, nI_toInt (by omega)]; exact e))
theorem kd_or2 (k : Int32) : (k < 0 ∨ 6 ≤ k) ∨ Kd k := by
  rcases sw_of k 6 (by decide) with ⟨j, hj, e⟩ | e | e
  · right; rw [e]; exact kd_nI hj
  · exact Or.inl (Or.inl (by rw [i_lt]; exact e))
  · exact Or.inl (Or.inr (by rw [i_le]; exact e))
theorem sh_or (v : Int32) : (v < 0 ∨ 4 ≤ v) ∨ ∃ s, s < 4 ∧ v = nI s := by
  rcases sw_of v 4 (by decide) with e | e | e
  · exact Or.inr e
  · exact Or.inl (Or.inl (by rw [i_lt]; exact e))
  · exact Or.inl (Or.inr (by rw [i_le]; exact e))
theorem in_or (v l u : Int32) : (v < l ∨ u < v) ∨ (¬ v < l ∧ ¬ u < v) := by
  by_cases h1 : v < l
  · exact Or.inl (Or.inl h1)
  · by_cases h2 : u < v
    · exact Or.inl (Or.inr h2)
    · exact Or.inr ⟨h1, h2⟩
theorem nat_of {v : Int32} {a b : Nat} (hb : b < 100000) (h1 : ¬ v < nI a) (h2 : ¬ nI b < v) (ha : a < 100000) : ∃ m, a ≤ m ∧ m ≤ b ∧ v = nI m := by
  rw [i_lt, nI_toInt (by omega)] at h1 h2
  exact ⟨v.toInt.toNat, by omega, by omega, by rw [i_eq, nI_toInt (by omega)]; omega⟩
theorem least (P : Nat → Prop) : ∀ N, (∃ m, m < N ∧ P m ∧ ∀ k, k < m → ¬ P k) ∨ ∀ k, k < N → ¬ P k
  | 0 => Or.inr (fun k hk => absurd hk (by omega))
  | N + 1 => by
    rcases least P N with ⟨m, h1, h2, h3⟩ | h
    · exact Or.inl ⟨m, by omega, h2, h3⟩
    · by_cases c : P N
      · exact Or.inl ⟨N, by omega, c, h⟩
      · refine Or.inr (fun k hk => ?_)
        by_cases e : k = N
        · rw [e]; exact c
        · exact h k (by omega)
theorem mv_inj2 {f t i j : Nat} (e : mv f t i = mv f t j) : i = j := by
  have := congrArg (mv t f) e
  rw [mv_bk, mv_bk] at this
  exact this
theorem may_or (w v : Int32) : w_may w v = 0 ∨ (w_may w v = 1 ∧ ∃ w', (w' = 1 ∨ w' = 2 ∨ w' = 3) ∧ w = nI w') := by
  have b : ∀ u : Int32, (if v < 0 then (0 : Int32) else if u < v then 0 else 1) = 0 ∨ (if v < 0 then (0 : Int32) else if u < v then 0 else 1) = 1 := fun u => b01_in v 0 u
  unfold w_may
  by_cases h1 : w = 1
  · rw [if_pos h1]
    rcases b 999 with e | e
    · exact Or.inl e
    · exact Or.inr ⟨e, 1, Or.inl rfl, h1⟩
  · rw [if_neg h1]
    by_cases h2 : w = 2 ∨ w = 3
    · rw [if_pos h2]
      rcases b 99 with e | e
      · exact Or.inl e
      · rcases h2 with h2 | h2
        · exact Or.inr ⟨e, 2, Or.inr (Or.inl rfl), h2⟩
        · exact Or.inr ⟨e, 3, Or.inr (Or.inr rfl), h2⟩
    · rw [if_neg h2]
      exact Or.inl rfl
theorem wmay_v {w : Nat} {v : Int32} (hw : w = 1 ∨ w = 2 ∨ w = 3) (h : w_may (nI w) v = 1) : ∃ u, u ≤ 999 ∧ (w ≠ 1 → u ≤ 99) ∧ v = nI u := by
  rcases hw with rfl | rfl | rfl
  · have e : w_may (nI 1) v = if v < 0 then 0 else if 999 < v then 0 else 1 := if_pos rfl
    rw [e] at h
    by_cases a : v < 0
    · rw [if_pos a] at h; exact absurd h (by decide)
    · by_cases c : 999 < v
      · rw [if_neg a, if_pos c] at h; exact absurd h (by decide)
      · obtain ⟨m, -, m2, m3⟩ := nat_of (a := 0) (b := 999) (by decide) a c (by decide)
        exact ⟨m, m2, fun z => absurd rfl z, m3⟩
  all_goals
    have e : ∀ x : Int32, (x = 2 ∨ x = 3) → w_may x v = if v < 0 then 0 else if 99 < v then 0 else 1 := fun x hx => by
      unfold w_may
      rw [if_neg (by rcases hx with rfl | rfl <;> decide), if_pos hx]
    first | rw [e (nI 2) (Or.inl rfl)] at h | rw [e (nI 3) (Or.inr rfl)] at h
    by_cases a : v < 0
    · rw [if_pos a] at h; exact absurd h (by decide)
    · by_cases c : 99 < v
      · rw [if_neg a, if_pos c] at h; exact absurd h (by decide)
      · obtain ⟨m, -, m2, m3⟩ := nat_of (a := 0) (b := 99) (by decide) a c (by decide)
        exact ⟨m, by omega, fun _ => m2, m3⟩
theorem RG.prs {r : Nat → Int32} {n j w : Nat} {v : Int32} (G : RG r n) (hw : w = 1 ∨ w = 2 ∨ w = 3) (h : w_may (nI w) v = 1) : RG (w_set r (7 + 7 * j + w) v) n := by
  obtain ⟨u, u1, u2, u3⟩ := wmay_v hw h
  obtain ⟨a, b, c, d, e⟩ := G
  refine ⟨a, (if_neg (by omega)).trans b, by rw [show w_set r (7 + 7 * j + w) v 2 = r 2 from if_neg (by omega)]; exact c, by rw [show w_set r (7 + 7 * j + w) v 3 = r 3 from if_neg (by omega)]; exact d, fun p hp => ?_⟩
  obtain ⟨e1, e2, e3⟩ := e p hp
  rw [ro_sp (by omega) (by decide), ro_sp (by omega) (by decide), ro_sp (by omega) (by decide)]
  refine ⟨by rw [if_neg (by omega)]; exact e1, ?_, ?_⟩
  · split
    · exact ⟨u, u1, u3⟩
    · exact e2
  · split
    · exact ⟨u, u2 (by omega), u3⟩
    · exact e3
theorem RG.drop {r : Nat → Int32} {n : Nat} (G : RG r (n + 1)) : RG (w_set r 0 (nI n)) n := by
  obtain ⟨a, b, c, d, e⟩ := G
  refine ⟨by omega, if_pos rfl, by rw [show w_set r 0 (nI n) 2 = r 2 from if_neg (by decide)]; exact c, by rw [show w_set r 0 (nI n) 3 = r 3 from if_neg (by decide)]; exact d, fun p hp => ?_⟩
  rw [ro_set (by decide), ro_set (by decide), ro_set (by decide)]
  exact e p (by omega)
theorem lw_of {v : Int32} (h1 : ¬ v < 0) (h2 : ¬ 2 < v) : Lw v := by
  obtain ⟨m, -, m2, m3⟩ := nat_of (a := 0) (b := 2) (by decide) h1 h2 (by decide)
  rw [m3]
  exact lw_nI (by omega)
theorem RG.lays {r : Nat → Int32} {n : Nat} {L : Nat → Int64} (G : RG r n) : ∀ i, RG (w_lays r L i) n
  | 0 => G
  | i + 1 => by
    rw [w_lays]
    split
    · exact RG.lays G i
    · rename_i h1
      split
      · exact RG.lays G i
      · rename_i h2
        obtain ⟨a, b, c, d, e⟩ := RG.lays (L := L) G i
        have hx : ∃ u, u ≤ 999 ∧ (L i).toInt32 = nI u := by
          have t1 : 0 ≤ (L i).toInt := by
            rw [Int64.lt_iff_toInt_lt] at h1
            have e0 : (0 : Int64).toInt = 0 := rfl
            omega
          have t2 : (L i).toInt ≤ 999 := by
            rw [Int64.lt_iff_toInt_lt] at h2
            have e0 : (999 : Int64).toInt = 999 := rfl
            omega
          refine ⟨(L i).toInt.toNat, by omega, ?_⟩
          rw [i_eq, nI_toInt (by omega), Int64.toInt_toInt32, fb_bmod (by omega) (by omega)]
          omega
        refine ⟨a, (if_neg (by omega)).trans b, by rw [show w_set (w_lays r L i) (7 + 7 * i + 1) (L i).toInt32 2 = w_lays r L i 2 from if_neg (by omega)]; exact c, by rw [show w_set (w_lays r L i) (7 + 7 * i + 1) (L i).toInt32 3 = w_lays r L i 3 from if_neg (by omega)]; exact d, fun p hp => ?_⟩
        obtain ⟨e1, e2, e3⟩ := e p hp
        rw [ro_sp (by decide) (by decide), ro_sp (by decide) (by decide), ro_sp (by decide) (by decide)]
        refine ⟨by rw [if_neg (by omega)]; exact e1, ?_, by rw [if_neg (by omega)]; exact e3⟩
        split
        · exact hx
        · exact e2
