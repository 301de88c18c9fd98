/-! ===== a square as a row of ints: people, coins, law, speaks, lie, hour, ran; then seven for each person ===== -/
def cut (v m : Int32) : Int32 := if v < m then v else m
def ro (r : Nat → Int32) (p f : Nat) : Int32 := r (7 + 7 * p + f)
def w_thinks (r : Nat → Int32) (p : Nat) (c : Int32) : Int32 := if r 3 = 0 then ro r p 3 else if c + r 4 ≤ 0 then 0 else c + r 4
def w_short (r : Nat → Int32) (p : Nat) (pl c : Int32) : Int32 := if pl + 1 - w_thinks r p c ≤ 0 then 0 else pl + 1 - w_thinks r p c
def w_raw (r : Nat → Int32) (p : Nat) (c : Int32) : Int32 :=
  if ro r p 0 = 1 then 0 else if ro r p 0 = 2 then 1 else if ro r p 0 = 3 then (if ro r p 2 < w_short r p (nI p) c then 0 else w_short r p (nI p) c)
  else if ro r p 0 = 4 then (if c ≤ 0 then 0 else -1) else if ro r p 0 = 5 then w_short r p (r 0 - 1) c
  else if w_short r p (nI p) c = 1 then (if ro r p 2 ≤ 0 then 0 else 1) else 0
def w_would (r : Nat → Int32) (p : Nat) (c : Int32) : Int32 := cut (w_raw r p c) (ro r p 1)
def w_ord (r : Nat → Int32) (n i : Nat) : Nat := if r 2 = 1 then n - 1 - i else if r 2 = 2 then (if i < n / 2 then 2 * i + 1 else 2 * (i - n / 2)) else i
def w_amt (r : Nat → Int32) (n : Nat) (who c : Int32) (i : Nat) (cc : Int32) : Int32 := if nI (w_ord r n i) = who then c else w_would r (w_ord r n i) cc
def w_cs (r : Nat → Int32) (n : Nat) (who c : Int32) : Nat → Int32
  | 0 => r 1
  | i + 1 => cut (w_cs r n who c i + w_amt r n who c i (w_cs r n who c i)) 999
def w_th (r : Nat → Int32) (n : Nat) (who c : Int32) : Nat → Nat → Int32
  | 0 => fun _ => 0
  | i + 1 => fun p => if p = w_ord r n i then w_amt r n who c i (w_cs r n who c i) else w_th r n who c i p
def w_will (r : Nat → Int32) (n : Nat) (who c : Int32) : Int32 := w_cs r n who c n
def w_thr (r : Nat → Int32) (n : Nat) (who c : Int32) (p : Nat) : Int32 := w_th r n who c n p
def w_gain (r : Nat → Int32) (n : Nat) (who c : Int32) (p : Nat) : Int32 := (if nI p < w_will r n who c then ro r p 2 else 0) - w_thr r n who c p
def w_hour (r : Nat → Int32) (n : Nat) (who c : Int32) (k : Nat) : Int32 :=
  if k = 1 then 0 else if k = 5 then r 5 + 1 else if k = 6 then w_will r n who c else if k < 7 then r k else if n ≤ (k - 7) / 7 then r k
  else if (k - 7) % 7 = 1 then cut (r k - w_thr r n who c ((k - 7) / 7)) 999
  else if (k - 7) % 7 = 4 then w_thr r n who c ((k - 7) / 7)
  else if (k - 7) % 7 = 5 then (if nI ((k - 7) / 7) < w_will r n who c then cut (r k + 1) 999999 else r k)
  else if (k - 7) % 7 = 6 then (if nI ((k - 7) / 7) < w_will r n who c then r k else cut (r k + 1) 999999)
  else r k
/-- how many of the first p are wet -/
def w_fill (w : Int32) : Nat → Int32
  | 0 => 0
  | p + 1 => w_fill w p + (if nI p < w then 1 else 0)
/-- a sum over the first p -/
def w_sum (f : Nat → Int32) : Nat → Int32
  | 0 => 0
  | p + 1 => w_sum f p + f p
theorem w_sum_congr {f f' : Nat → Int32} : ∀ {n : Nat}, (∀ p, p < n → f p = f' p) → w_sum f n = w_sum f' n
  | 0, _ => rfl
  | n + 1, h => by rw [w_sum, w_sum, w_sum_congr (fun p hp => h p (by omega)), h n (by omega)]
/-! ints -/
theorem i_le (a b : Int32) : a ≤ b ↔ a.toInt ≤ b.toInt := Int32.le_iff_toInt_le
theorem i_lt (a b : Int32) : a < b ↔ a.toInt < b.toInt := Int32.lt_iff_toInt_lt
theorem i_eq (a b : Int32) : a = b ↔ a.toInt = b.toInt := Int32.toInt_inj.symm
theorem i_nlt {a b : Int32} : ¬ a < b ↔ b ≤ a := by rw [i_lt, i_le]; omega
theorem i_nle {a b : Int32} : ¬ a ≤ b ↔ b < a := by rw [i_lt, i_le]; omega
/-- the two ways to write the least, and the greater of 0 and a number -/
theorem min_cut (a b : Int32) : (if b < a then b else a) = cut a b := by
  unfold cut
  by_cases h1 : b < a
  · rw [if_pos h1, if_neg (by rw [i_lt] at h1 ⊢; omega)]
  · by_cases h2 : a < b
    · rw [if_neg h1, if_pos h2]
    · rw [if_neg h1, if_neg h2, i_eq]
      rw [i_lt] at h1 h2
      omega
theorem max_le (b : Int32) : (if (0 : Int32) < b then b else 0) = if b ≤ 0 then 0 else b := by
  by_cases h1 : (0 : Int32) < b
  · rw [if_pos h1, if_neg (by rw [i_lt] at h1; rw [i_le]; omega)]
  · rw [if_neg h1, if_pos (by rw [i_lt] at h1; rw [i_le]; omega)]
/-- a square of the heap holds a row of n people -/
def Rep (h : Hp) (q n : Nat) (r : Nat → Int32) : Prop := n ≤ 10 ∧ r 0 = nI n ∧ hI h q 6 = nI n ∧ (∀ k, k < 6 → hI h q k = r (k + 1)) ∧ ∀ p f, p < n → f < 7 → pf h q p f = ro r p f
/-- what one at a place throws by -/
def WR (h : Hp) (q p : Nat) (r : Nat → Int32) (c : Int32) : Prop := hI h q 0 = c ∧ hI h q 2 = r 3 ∧ hI h q 3 = r 4 ∧ hI h q 6 = r 0 ∧ ∀ f, f < 4 → pf h q p f = ro r p f
theorem Rep.wr {h : Hp} {q n : Nat} {r : Nat → Int32} (R : Rep h q n r) {p : Nat} (hp : p < n) : WR h q p r (r 1) :=
  ⟨R.2.2.2.1 0 (by decide), R.2.2.2.1 2 (by decide), R.2.2.2.1 3 (by decide), R.2.2.1.trans R.2.1.symm, fun f hf => R.2.2.2.2 p f hp (by omega)⟩
/-- an int is one of the first n, or beyond -/
theorem sw_of (x : Int32) (n : Nat) (hn : n < 2 ^ 31) : (∃ k, k < n ∧ x = nI k) ∨ x.toInt < 0 ∨ (n : Int) ≤ x.toInt := by
  by_cases h1 : x.toInt < 0
  · exact Or.inr (Or.inl h1)
  · by_cases h2 : (n : Int) ≤ x.toInt
    · exact Or.inr (Or.inr h2)
    · refine Or.inl ⟨x.toInt.toNat, by omega, ?_⟩
      rw [i_eq, nI_toInt (by omega)]
      omega
/-- kinds are 0 to 5 -/
def Kd (x : Int32) : Prop := x = 0 ∨ x = 1 ∨ x = 2 ∨ x = 3 ∨ x = 4 ∨ x = 5
