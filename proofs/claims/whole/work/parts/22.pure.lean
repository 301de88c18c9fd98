/-! ===== a square as a row of ints: people, coins, law, speaks, lie, hour, ran; then seven for each person ===== -/
def cut (v m : Int32) : Int32 := if v < m then v else m
def ro (r : Nat → Int32) (p f : Nat) : Int32 := r (7 + 7 * p + f)
def w_thinks (r : Nat → Int32) (p : Nat) (c : Int32) : Int32 := if r 3 = 0 then ro r p 3 else if c + r 4 ≤ 0 then 0 else c + r 4
def w_short (r : Nat → Int32) (p : Nat) (pl c : Int32) : Int32 := if pl + 1 - w_thinks r p c ≤ 0 then 0 else pl + 1 - w_thinks r p c
def w_raw (r : Nat → Int32) (p : Nat) (c : Int32) : Int32 :=
  if ro r p 0 = 1 then 0 else if ro r p 0 = 2 then 1 else if ro r p 0 = 3 then (if ro r p 2 < w_short r p (nI p) c then 0 else w_short r p (nI p) c)
  else if ro r p 0 = 4 then (if c ≤ 0 then 0 else -1) else if ro r p 0 = 5 then w_short r p (r 0 - 1) c
  else if w_short r p (nI p) c = 1 then (if ro r p 2 ≤ 0 then 0 else 1) else 0
def w_would (r : Nat → Int32) (p : Nat) (c : Int32) : Int32 := cut (w_raw r p c) (ro r p 1)
def w_ord (r : Nat → Int32) (n i : Nat) : Nat := if r 2 = 1 then n - 1 - i else if r 2 = 2 then (if i < n / 2 then 2 * i + 1 else 2 * (i - n / 2)) else i
def w_amt (r : Nat → Int32) (n : Nat) (who c : Int32) (i : Nat) (cc : Int32) : Int32 := if nI (w_ord r n i) = who then c else w_would r (w_ord r n i) cc
def w_cs (r : Nat → Int32) (n : Nat) (who c : Int32) : Nat → Int32
  | 0 => r 1
  | i + 1 => cut (w_cs r n who c i + w_amt r n who c i (w_cs r n who c i)) 999
def w_th (r : Nat → Int32) (n : Nat) (who c : Int32) : Nat → Nat → Int32
  | 0 => fun _ => 0
  | i + 1 => fun p => if p = w_ord r n i then w_amt r n who c i (w_cs r n who c i) else w_th r n who c i p
def w_will (r : Nat → Int32) (n : Nat) (who c : Int32) : Int32 := w_cs r n who c n
def w_thr (r : Nat → Int32) (n : Nat) (who c : Int32) (p : Nat) : Int32 := w_th r n who c n p
def w_gain (r : Nat → Int32) (n : Nat) (who c : Int32) (p : Nat) : Int32 := (if nI p < w_will r n who c then ro r p 2 else 0) - w_thr r n who c p
/-- a row out of its seven and its people -/
def mkr (s : Nat → Int32) (P : Nat → Nat → Int32) : Nat → Int32 := fun k => if k < 7 then s k else P ((k - 7) / 7) ((k - 7) % 7)
theorem ro_mk {s : Nat → Int32} {P : Nat → Nat → Int32} {p f : Nat} (hf : f < 7) : ro (mkr s P) p f = P p f := by
  unfold ro mkr
  rw [if_neg (by omega), show (7 + 7 * p + f - 7) / 7 = p by omega, show (7 + 7 * p + f - 7) % 7 = f by omega]
theorem mk_s {s : Nat → Int32} {P : Nat → Nat → Int32} {k : Nat} (hk : k < 7) : mkr s P k = s k := if_pos hk
def w_hour (r : Nat → Int32) (n : Nat) (who c : Int32) : Nat → Int32 := mkr
  (fun k => if k = 1 then 0 else if k = 5 then r 5 + 1 else if k = 6 then w_will r n who c else r k)
  (fun p f => if f = 1 then cut (ro r p 1 - w_thr r n who c p) 999 else if f = 4 then w_thr r n who c p
    else if f = 5 then (if nI p < w_will r n who c then cut (ro r p 5 + 1) 999999 else ro r p 5)
    else if f = 6 then (if nI p < w_will r n who c then ro r p 6 else cut (ro r p 6 + 1) 999999) else ro r p f)
/-- how many of the first p are wet -/
def w_fill (w : Int32) : Nat → Int32
  | 0 => 0
  | p + 1 => w_fill w p + (if nI p < w then 1 else 0)
/-- a sum over the first p -/
def w_sum (f : Nat → Int32) : Nat → Int32
  | 0 => 0
  | p + 1 => w_sum f p + f p
theorem w_sum_congr {f f' : Nat → Int32} : ∀ {n : Nat}, (∀ p, p < n → f p = f' p) → w_sum f n = w_sum f' n
  | 0, _ => rfl
  | n + 1, h => by rw [w_sum, w_sum, w_sum_congr (fun p hp => h p (by omega)), h n (by omega)]
/-! ints -/
theorem i_le (a b : Int32) : a ≤ b ↔ a.toInt ≤ b.toInt := Int32.le_iff_toInt_le
theorem i_lt (a b : Int32) : a < b ↔ a.toInt < b.toInt := Int32.lt_iff_toInt_lt
theorem i_eq (a b : Int32) : a = b ↔ a.toInt = b.toInt := Int32.toInt_inj.symm
theorem i_nlt {a b : Int32} : ¬ a < b ↔ b ≤ a := by rw [i_lt, i_le]; omega
theorem i_nle {a b : Int32} : ¬ a ≤ b ↔ b < a := by rw [i_lt, i_le]; omega
/-- the two ways to write the least, and the greater of 0 and a number -/
theorem min_cut (a b : Int32) : (if b < a then b else a) = cut a b := by
  unfold cut
  by_cases h1 : b < a
  · rw [if_pos h1, if_neg (by rw [i_lt] at h1 ⊢; omega)]
  · by_cases h2 : a < b
    · rw [if_neg h1, if_pos h2]
    · rw [if_neg h1, if_neg h2, i_eq]
      rw [i_lt] at h1 h2
      omega
theorem max_le (b : Int32) : (if (0 : Int32) < b then b else 0) = if b ≤ 0 then 0 else b := by
  by_cases h1 : (0 : Int32) < b
  · rw [if_pos h1, if_neg (by rw [i_lt] at h1; rw [i_le]; omega)]
  · rw [if_neg h1, if_pos (by rw [i_lt] at h1; rw [i_le]; omega)]
/-- a square of the heap holds a row of n people -/
def Rep (h : Hp) (q n : Nat) (r : Nat → Int32) : Prop := n ≤ 10 ∧ r 0 = nI n ∧ hI h q 6 = nI n ∧ (∀ k, k < 6 → hI h q k = r (k + 1)) ∧ ∀ p f, p < n → f < 7 → pf h q p f = ro r p f
/-- what one at a place throws by -/
def WR (h : Hp) (q p : Nat) (r : Nat → Int32) (c : Int32) : Prop := hI h q 0 = c ∧ hI h q 2 = r 3 ∧ hI h q 3 = r 4 ∧ hI h q 6 = r 0 ∧ ∀ f, f < 4 → pf h q p f = ro r p f
theorem Rep.wr {h : Hp} {q n : Nat} {r : Nat → Int32} (R : Rep h q n r) {p : Nat} (hp : p < n) : WR h q p r (r 1) :=
  ⟨R.2.2.2.1 0 (by decide), R.2.2.2.1 2 (by decide), R.2.2.2.1 3 (by decide), R.2.2.1.trans R.2.1.symm, fun f hf => R.2.2.2.2 p f hp (by omega)⟩
/-- an int is one of the first n, or beyond -/
theorem sw_of (x : Int32) (n : Nat) (hn : n < 2 ^ 31) : (∃ k, k < n ∧ x = nI k) ∨ x.toInt < 0 ∨ (n : Int) ≤ x.toInt := by
  by_cases h1 : x.toInt < 0
  · exact Or.inr (Or.inl h1)
  · by_cases h2 : (n : Int) ≤ x.toInt
    · exact Or.inr (Or.inr h2)
    · refine Or.inl ⟨x.toInt.toNat, by omega, ?_⟩
      rw [i_eq, nI_toInt (by omega)]
      omega
/-- kinds are 0 to 5 -/
def Kd (x : Int32) : Prop := x = 0 ∨ x = 1 ∨ x = 2 ∨ x = 3 ∨ x = 4 ∨ x = 5
/-- who has thrown among the first i -/
def w_vis (r : Nat → Int32) (n : Nat) : Nat → Nat → Bool
  | 0, _ => false
  | i + 1, p => p == w_ord r n i || w_vis r n i p
theorem vis_of {r : Nat → Int32} {n p : Nat} : ∀ {i : Nat}, w_vis r n i p = true → ∃ j, j < i ∧ w_ord r n j = p
  | 0, h => by cases h
  | i + 1, h => by
    simp only [w_vis, Bool.or_eq_true, beq_iff_eq] at h
    rcases h with h | h
    · exact ⟨i, by omega, h.symm⟩
    · obtain ⟨j, h1, h2⟩ := vis_of h
      exact ⟨j, by omega, h2⟩
theorem of_vis {r : Nat → Int32} {n : Nat} : ∀ {i j : Nat}, j < i → w_vis r n i (w_ord r n j) = true
  | 0, j, h => absurd h (by omega)
  | i + 1, j, h => by
    simp only [w_vis, Bool.or_eq_true, beq_iff_eq]
    rcases Nat.lt_or_ge j i with h1 | h1
    · exact Or.inr (of_vis h1)
    · rw [show j = i by omega]
      exact Or.inl rfl
/-- a law is 0, 1 or 2 -/
def Lw (x : Int32) : Prop := x = 0 ∨ x = 1 ∨ x = 2
theorem ord_lt {r : Nat → Int32} {n i : Nat} (hi : i < n) : w_ord r n i < n := by
  unfold w_ord
  split
  · omega
  · split
    · split <;> omega
    · exact hi
theorem ord_inj {r : Nat → Int32} {n i j : Nat} (hi : i < n) (hj : j < n) (e : w_ord r n i = w_ord r n j) : i = j := by
  unfold w_ord at e
  split at e
  · omega
  · split at e
    · split at e <;> split at e <;> omega
    · exact e
theorem ord_onto {r : Nat → Int32} {n p : Nat} (hp : p < n) : ∃ i, i < n ∧ w_ord r n i = p := by
  unfold w_ord
  split
  · exact ⟨n - 1 - p, by omega, by omega⟩
  · split
    · by_cases ho : p % 2 = 1
      · exact ⟨p / 2, by omega, by rw [if_pos (by omega)]; omega⟩
      · exact ⟨n / 2 + p / 2, by omega, by rw [if_neg (by omega)]; omega⟩
    · exact ⟨p, hp, rfl⟩
theorem vis_all {r : Nat → Int32} {n p : Nat} (hp : p < n) : w_vis r n n p = true := by
  obtain ⟨i, h1, h2⟩ := ord_onto (r := r) hp
  rw [← h2]
  exact of_vis h1
theorem vis_new {r : Nat → Int32} {n i : Nat} (hi : i < n) : w_vis r n i (w_ord r n i) = false := by
  cases h : w_vis r n i (w_ord r n i) with
  | false => rfl
  | true =>
    obtain ⟨j, h1, h2⟩ := vis_of h
    have := ord_inj (by omega) hi h2
    omega
/-- the row when i have thrown -/
def w_mid (r : Nat → Int32) (n : Nat) (who c : Int32) (i : Nat) : Nat → Int32 := mkr (fun k => if k = 1 then w_cs r n who c i else r k)
  (fun p f => if w_vis r n i p = true then (if f = 4 then w_th r n who c i p else if f = 1 then cut (ro r p 1 - w_th r n who c i p) 999 else ro r p f) else ro r p f)
/-- the pails of the first m filled -/
def w_fp (r : Nat → Int32) (m : Nat) : Nat → Int32 := mkr r (fun p f => if p < m then (if f = 5 then (if nI p < r 6 then cut (ro r p 5 + 1) 999999 else ro r p 5) else if f = 6 then (if nI p < r 6 then ro r p 6 else cut (ro r p 6 + 1) 999999) else ro r p f) else ro r p f)
/-- 0 or 1 -/
def B01 (x : Int32) : Prop := x = 0 ∨ x = 1
theorem nar_b {x : Int32} (hx : B01 x) : narrow .boolean (.int x) = .int x := by rcases hx with rfl | rfl <;> rfl
theorem fit_b {x : Int32} (hx : B01 x) : fits .boolean (.int x) = true := by rcases hx with rfl | rfl <;> rfl
/-! what changes and what stays -/
theorem Inv.of {h h' : Hp} (hv : Inv h) (e : h'.2 = h.2) : Inv h' := by unfold Inv; rw [e]; exact hv
/-- ints of one square alone have changed -/
def FrI (q : Nat) (h h' : Hp) : Prop := h'.2 = h.2 ∧ ∀ a, (a < q ∨ q + 12 ≤ a) → h'.1 a = h.1 a
theorem FrI.rf {q : Nat} {h : Hp} : FrI q h h := ⟨rfl, fun _ _ => rfl⟩
theorem FrI.tr {q : Nat} {h h' h'' : Hp} (a : FrI q h h') (b : FrI q h' h'') : FrI q h h'' := ⟨b.1.trans a.1, fun x hx => (b.2 x hx).trans (a.2 x hx)⟩
theorem FrI.u {q : Nat} {h h' : Hp} (F : FrI q h h') {a k : Nat} {v : Int32} (h1 : q ≤ a) (h2 : a < q + 12) : FrI q h (uI h' a k v) := ⟨F.1, fun x hx => (funext fun _ => if_neg (fun e => by omega)).trans (F.2 x hx)⟩
theorem pn_eq {h h' : Hp} (e : h'.2 = h.2) {q j : Nat} : pn h' q j = pn h q j := by unfold pn hR; rw [e]
theorem Rep.other {h h' : Hp} {q o n : Nat} {r : Nat → Int32} (R : Rep h o n r) (hv : Inv h) (ho : Sqr o) (F : FrI q h h') (hd : o + 12 ≤ q ∨ q + 12 ≤ o) : Rep h' o n r := by
  obtain ⟨h1, h2, h3, h4, h5⟩ := R
  have eo : h'.1 o = h.1 o := F.2 o (by omega)
  refine ⟨h1, h2, by show h'.1 o 6 = _; rw [eo]; exact h3, fun k hk => by show h'.1 o k = _; rw [eo]; exact h4 k hk, fun p f hp hf => ?_⟩
  have hi := pn_in hv ho (j := p) (by omega)
  show h'.1 (pn h' o p) f = _
  rw [pn_eq F.1, F.2 _ (by omega)]
  exact h5 p f hp hf
theorem sq_apart {q o : Nat} (hq : Sqr q) (ho : Sqr o) (hne : o ≠ q) : o + 12 ≤ q ∨ q + 12 ≤ o := by
  rcases hq with rfl | rfl | rfl <;> rcases ho with rfl | rfl | rfl <;> omega
theorem nI_2 : (2 : Int32) = nI 2 := rfl
theorem nI_7 : (7 : Int32) = nI 7 := rfl
theorem nI_c1 : (1 : Int32) = nI 1 := rfl
