/-! ===== the text: tokens ===== -/
def sb (t : Nat) : Int32 := (nI t).toInt8.toInt32
def isL (t : Nat) : Bool := decide (97 ≤ t) && decide (t ≤ 122)
def isD (t : Nat) : Bool := decide (48 ≤ t) && decide (t ≤ 57)
def isS (t : Nat) : Bool := t == 32
theorem sb_L : ∀ t, t < 256 → (if sb t < 97 then (0 : Int32) else if 122 < sb t then 0 else 1) = if isL t = true then 1 else 0 := by decide +kernel
theorem sb_D : ∀ t, t < 256 → (if sb t < 48 then (0 : Int32) else if 57 < sb t then 0 else 1) = if isD t = true then 1 else 0 := by decide +kernel
theorem sb_S : ∀ t, t < 256 → (sb t = 32 ↔ isS t = true) := by decide +kernel
theorem sb_Dv : ∀ t, t < 256 → isD t = true → sb t = nI t := by decide +kernel
theorem sb_Lv : ∀ t, t < 256 → isL t = true → sb t = nI t := by decide +kernel
theorem sb_inj : ∀ t, t < 256 → ∀ u, u < 128 → (sb t = nI u ↔ t = u) := by decide +kernel
def sgn (t : Nat) : Nat := if t = 59 then 3 else if t = 45 then 4 else 5
theorem sb_g : ∀ t, t < 256 → (sb t = 59 ∧ sgn t = 3 ∨ sb t = 45 ∧ sgn t = 4 ∨ (Op.lookupswitch.offset [(45, 29), (59, 27)] 31 (sb t).toInt = 31 ∧ sgn t = 5)) := by decide +kernel
/-- how far a run of bytes goes -/
def rn (P : Nat → Bool) (T : Nat → Nat) (z : Nat) : Nat → Nat → Nat
  | 0, k => k
  | f + 1, k => if k < z ∧ P (T k) = true then rn P T z f (k + 1) else k
def Run (P : Nat → Bool) (T : Nat → Nat) (z k e : Nat) : Prop := k ≤ e ∧ (∀ j, k ≤ j → j < e → j < z ∧ P (T j) = true) ∧ ¬ (e < z ∧ P (T e) = true)
theorem rn_run {P : Nat → Bool} {T : Nat → Nat} {z : Nat} : ∀ f k, z ≤ k + f → Run P T z k (rn P T z f k)
  | 0, k, h => ⟨Nat.le_refl _, fun j h1 h2 => absurd h2 (Nat.not_lt.mpr h1), fun c => by have := c.1; simp only [rn] at this; omega⟩
  | f + 1, k, h => by
    rw [rn]
    split
    · rename_i c
      obtain ⟨a, b, d⟩ := rn_run (P := P) (T := T) (z := z) f (k + 1) (by omega)
      refine ⟨by omega, fun j h1 h2 => ?_, d⟩
      by_cases e : j = k
      · rw [e]; exact c
      · exact b j (by omega) h2
    · rename_i c
      exact ⟨Nat.le_refl _, fun j h1 h2 => absurd h2 (Nat.not_lt.mpr h1), c⟩
theorem Run.le {P : Nat → Bool} {T : Nat → Nat} {z k e : Nat} (R : Run P T z k e) (hk : k ≤ z) : e ≤ z := by
  by_cases c : k = e
  · omega
  · have := (R.2.1 (e - 1) (by have := R.1; omega) (by have := R.1; omega)).1
    omega
def rne (P : Nat → Bool) (T : Nat → Nat) (z k : Nat) : Nat := rn P T z z k
theorem rne_run (P : Nat → Bool) (T : Nat → Nat) (z k : Nat) : Run P T z k (rne P T z k) := rn_run z k (by omega)
/-- a token from a place on: its first byte, what it is, the byte behind it, its number -/
def tF (T : Nat → Nat) (z k : Nat) : Nat := rne isS T z k
def tT (T : Nat → Nat) (z k : Nat) : Nat := if z ≤ tF T z k then 0 else if isL (T (tF T z k)) = true then 1 else if isD (T (tF T z k)) = true then 2 else sgn (T (tF T z k))
def tB (T : Nat → Nat) (z k : Nat) : Nat := if tT T z k = 0 then tF T z k else if tT T z k = 1 then rne isL T z (tF T z k) else if tT T z k = 2 then rne isD T z (tF T z k) else tF T z k + 1
def nu (T : Nat → Nat) (f : Nat) : Nat → Nat
  | 0 => 0
  | m + 1 => min 1000 (10 * nu T f m + (T (f + m) - 48))
def tN (T : Nat → Nat) (z k : Nat) : Nat := nu T (tF T z k) (tB T z k - tF T z k)
theorem nu_le (T : Nat → Nat) (f : Nat) : ∀ m, nu T f m ≤ 1000
  | 0 => by rw [nu]; omega
  | m + 1 => by rw [nu]; omega
theorem tF_le {T : Nat → Nat} {z k : Nat} (hk : k ≤ z) : k ≤ tF T z k ∧ tF T z k ≤ z := ⟨(rne_run isS T z k).1, (rne_run isS T z k).le hk⟩
theorem sgn_3 (t : Nat) : sgn t = 3 ∨ sgn t = 4 ∨ sgn t = 5 := by
  unfold sgn
  split
  · exact Or.inl rfl
  · split
    · exact Or.inr (Or.inl rfl)
    · exact Or.inr (Or.inr rfl)
theorem tB_le {T : Nat → Nat} {z k : Nat} (hk : k ≤ z) : tF T z k ≤ tB T z k ∧ tB T z k ≤ z := by
  have h1 := tF_le (T := T) hk
  unfold tB
  split
  · omega
  · rename_i c0
    split
    · exact ⟨(rne_run isL T z _).1, (rne_run isL T z _).le h1.2⟩
    · split
      · exact ⟨(rne_run isD T z _).1, (rne_run isD T z _).le h1.2⟩
      · refine ⟨by omega, ?_⟩
        have : ¬ z ≤ tF T z k := fun c => c0 (if_pos c)
        omega
/-- a token that is one has a byte -/
theorem tB_lt {T : Nat → Nat} {z k : Nat} (h : tT T z k ≠ 0) : tF T z k < tB T z k := by
  have hz : ¬ z ≤ tF T z k := fun c => h (if_pos c)
  unfold tB
  rw [if_neg h]
  split
  · rename_i c
    have hl : isL (T (tF T z k)) = true := by
      by_cases e : isL (T (tF T z k)) = true
      · exact e
      · exfalso
        rw [tT, if_neg hz, if_neg e] at c
        split at c
        · omega
        · rcases sgn_3 (T (tF T z k)) with e | e | e <;> omega
    have R := rne_run isL T z (tF T z k)
    rcases Nat.lt_or_ge (tF T z k) (rne isL T z (tF T z k)) with e | e
    · exact e
    · have e2 : rne isL T z (tF T z k) = tF T z k := by have := R.1; omega
      exact absurd ⟨by rw [e2]; omega, by rw [e2]; exact hl⟩ R.2.2
  · split
    · rename_i c1 c
      have hl : isD (T (tF T z k)) = true := by
        by_cases e : isD (T (tF T z k)) = true
        · exact e
        · exfalso
          rw [tT, if_neg hz] at c
          split at c
          · omega
          · rcases sgn_3 (T (tF T z k)) with e | e | e <;> omega
      have R := rne_run isD T z (tF T z k)
      rcases Nat.lt_or_ge (tF T z k) (rne isD T z (tF T z k)) with e | e
      · exact e
      · have e2 : rne isD T z (tF T z k) = tF T z k := by have := R.1; omega
        exact absurd ⟨by rw [e2]; omega, by rw [e2]; exact hl⟩ R.2.2
    · omega
/-- the tape of the class -/
def BT (h : Hp) (T : Nat → Nat) (z : Nat) : Prop := z ≤ 120 ∧ hI h 38 1 = nI z ∧ (∀ i, T i < 256) ∧ ∀ i, i < z → hI h 39 i = sb (T i)
/-- but for what a look sets nothing changes -/
def FT (h0 h : Hp) : Prop := h.2 = h0.2 ∧ (∀ a, a ≠ 38 → h.1 a = h0.1 a) ∧ h.1 38 1 = h0.1 38 1
theorem FT.rf {h : Hp} : FT h h := ⟨rfl, fun _ _ => rfl, rfl⟩
theorem FT.tr {h h' h'' : Hp} (a : FT h h') (b : FT h' h'') : FT h h'' := ⟨b.1.trans a.1, fun x hx => (b.2.1 x hx).trans (a.2.1 x hx), b.2.2.trans a.2.2⟩
theorem FT.u {h0 h : Hp} (F : FT h0 h) {k : Nat} {v : Int32} (hk : k ≠ 1) : FT h0 (uI h 38 k v) := ⟨F.1, fun a ha => (funext fun _ => if_neg (fun e => ha e.1)).trans (F.2.1 a ha), (if_neg (fun e => hk e.2.symm)).trans F.2.2⟩
theorem FT.inv {h0 h : Hp} (F : FT h0 h) (hv : Inv h0) : Inv h := by show InvR h.2.2; rw [F.1]; exact hv
theorem FT.bt {h0 h : Hp} {T : Nat → Nat} {z : Nat} (F : FT h0 h) (B : BT h0 T z) : BT h T z := ⟨B.1, F.2.2.trans B.2.1, B.2.2.1, fun i hi => by show h.1 39 i = _; rw [F.2.1 39 (by decide)]; exact B.2.2.2 i hi⟩
theorem at_un {h : Hp} {a k j : Nat} {v : Int32} (hne : j ≠ k) : hI (uI h a k v) a j = hI h a j := if_neg (fun e => hne e.2)
/-- what a look leaves -/
def Tok (h : Hp) (T : Nat → Nat) (z k : Nat) : Prop := hI h 38 2 = nI (tT T z k) ∧ hI h 38 3 = nI (tF T z k) ∧ hI h 38 4 = nI (tB T z k) ∧ (tT T z k = 2 → hI h 38 5 = nI (tN T z k))
theorem sp_X3_isLetter {g : GG} {h : Hp} {Post : Option Value → Hp → Prop} {t : Nat} (ht : t < 256) (K : Post (some (.int (if isL t = true then 1 else 0))) h) : Sp g mX3_isLetter [.int (sb t)] h Post := by
  show Go g mX3_isLetter 0 [_] [] _ _ _
  rw [← sb_L t ht] at K
  refine ok_iload_n dX3_isLetter_0 rfl rfl ?_
  refine ok_bipush (v := 97) dX3_isLetter_1 (by decide) ?_
  refine ok_icmp_lt (tgt := 16) dX3_isLetter_3 (by decide) (fun c_3 => ?_) (fun c_3 => ?_)
  · refine ok_iconst (v := 0) dX3_isLetter_16 (by decide) ?_
    refine ok_ireturn dX3_isLetter_17 rfl rfl ?_
    first | exact K | (simp only [c_3, ↓reduceIte] at K; exact K)
  · refine ok_iload_n dX3_isLetter_6 rfl rfl ?_
    refine ok_bipush (v := 122) dX3_isLetter_7 (by decide) ?_
    refine ok_icmp_gt (tgt := 16) dX3_isLetter_9 (by decide) (fun c_9 => ?_) (fun c_9 => ?_)
    · refine ok_iconst (v := 0) dX3_isLetter_16 (by decide) ?_
      refine ok_ireturn dX3_isLetter_17 rfl rfl ?_
      first | exact K | (simp only [c_3, c_9, ↓reduceIte] at K; exact K)
    · refine ok_iconst (v := 1) dX3_isLetter_12 (by decide) ?_
      refine ok_goto (tgt := 17) dX3_isLetter_13 (by decide) ?_
      refine ok_ireturn dX3_isLetter_17 rfl rfl ?_
      first | exact K | (simp only [c_3, c_9, ↓reduceIte] at K; exact K)
theorem sp_X3_isDigit {g : GG} {h : Hp} {Post : Option Value → Hp → Prop} {t : Nat} (ht : t < 256) (K : Post (some (.int (if isD t = true then 1 else 0))) h) : Sp g mX3_isDigit [.int (sb t)] h Post := by
  show Go g mX3_isDigit 0 [_] [] _ _ _
  rw [← sb_D t ht] at K
  refine ok_iload_n dX3_isDigit_0 rfl rfl ?_
  refine ok_bipush (v := 48) dX3_isDigit_1 (by decide) ?_
  refine ok_icmp_lt (tgt := 16) dX3_isDigit_3 (by decide) (fun c_3 => ?_) (fun c_3 => ?_)
  · refine ok_iconst (v := 0) dX3_isDigit_16 (by decide) ?_
    refine ok_ireturn dX3_isDigit_17 rfl rfl ?_
    first | exact K | (simp only [c_3, ↓reduceIte] at K; exact K)
  · refine ok_iload_n dX3_isDigit_6 rfl rfl ?_
    refine ok_bipush (v := 57) dX3_isDigit_7 (by decide) ?_
    refine ok_icmp_gt (tgt := 16) dX3_isDigit_9 (by decide) (fun c_9 => ?_) (fun c_9 => ?_)
    · refine ok_iconst (v := 0) dX3_isDigit_16 (by decide) ?_
      refine ok_ireturn dX3_isDigit_17 rfl rfl ?_
      first | exact K | (simp only [c_3, c_9, ↓reduceIte] at K; exact K)
    · refine ok_iconst (v := 1) dX3_isDigit_12 (by decide) ?_
      refine ok_goto (tgt := 17) dX3_isDigit_13 (by decide) ?_
      refine ok_ireturn dX3_isDigit_17 rfl rfl ?_
      first | exact K | (simp only [c_3, c_9, ↓reduceIte] at K; exact K)
theorem sp_X3_signOf {g : GG} {h : Hp} {Post : Option Value → Hp → Prop} {t : Nat} (ht : t < 256) (K : Post (some (.int (nI (sgn t)))) h) : Sp g mX3_signOf [.int (sb t)] h Post := by
  show Go g mX3_signOf 0 [_] [] _ _ _
  refine ok_iload_n dX3_signOf_0 rfl rfl ?_
  rcases sb_g t ht with ⟨e1, e2⟩ | ⟨e1, e2⟩ | ⟨e1, e2⟩
  all_goals rw [e2] at K
  · rw [e1]
    refine ok_lookup (tgt := 28) (off := 27) dX3_signOf_1 (by decide) (by decide) (by decide) ?_
    refine ok_iconst (v := 3) dX3_signOf_28 (by decide) ?_
    refine ok_ireturn dX3_signOf_29 rfl rfl ?_
    exact K
  · rw [e1]
    refine ok_lookup (tgt := 30) (off := 29) dX3_signOf_1 (by decide) (by decide) (by decide) ?_
    refine ok_iconst (v := 4) dX3_signOf_30 (by decide) ?_
    refine ok_ireturn dX3_signOf_31 rfl rfl ?_
    exact K
  · refine ok_lookup (tgt := 32) (off := 31) dX3_signOf_1 (by decide) e1 (by decide) ?_
    refine ok_iconst (v := 5) dX3_signOf_32 (by decide) ?_
    refine ok_ireturn dX3_signOf_33 rfl rfl ?_
    exact K
theorem lp_X3_look_8 {g : GG} {h0 : Hp} {Post : Option Value → Hp → Prop} (hv0 : Inv h0) {T : Nat → Nat} {z : Nat} (B0 : BT h0 T z)  {k e : Nat} (R : Run isS T z k e) (hez : e ≤ z) (K : ∀ h', FT h0 h' → hI h' 38 3 = nI e → Go g mX3_look 46 [some (.ref 38)] [] h' (0, 0) Post) : ∀ (d i : Nat) (h : Hp), i + d = e → k ≤ i → FT h0 h → hI h 38 3 = nI i → Go g mX3_look 8 [some (.ref 38)] [] h (0, 0) Post := by
  intro d
  induction d with
  | zero =>
    intro i h hd hk F e3
    obtain rfl : i = e := by omega
    have hv := F.inv hv0
    have B := F.bt B0
    have hz := B.1
    have e1 := B.2.1
    by_cases c0 : i < z
    · refine ok_aload_n dX3_look_8 rfl rfl ?_
      refine ok_getI dX3_look_9 f_X3_22 (by first | exact is_lit hv (by decide) rfl | exact is_sq hv hq | exact is_row hv hq | exact is_pn hv hq (by assumption) | assumption) rfl ?_
      refine ok_aload_n dX3_look_12 rfl rfl ?_
      refine ok_getI dX3_look_13 f_X3_15 (by first | exact is_lit hv (by decide) rfl | exact is_sq hv hq | exact is_row hv hq | exact is_pn hv hq (by assumption) | assumption) rfl ?_
      rw [e3, e1]
      refine ok_icmp_ge (tgt := 46) dX3_look_16 (by decide) (fun c9 => absurd c9 (nI_ge c0 (by omega))) (fun _ => ?_)
      refine ok_aload_n dX3_look_19 rfl rfl ?_
      refine ok_getR dX3_look_20 f_X3_9 (by first | exact is_lit hv (by decide) rfl | exact is_sq hv hq | exact is_row hv hq | exact is_pn hv hq (by assumption) | assumption) rfl (by first | exact rf hv rfl | exact rf_row hv hq | assumption) ?_
      refine ok_aload_n dX3_look_23 rfl rfl ?_
      refine ok_getI dX3_look_24 f_X3_22 (by first | exact is_lit hv (by decide) rfl | exact is_sq hv hq | exact is_row hv hq | exact is_pn hv hq (by assumption) | assumption) rfl ?_
      rw [e3]
      refine ok_baload dX3_look_27 (is_lit hv (by decide) rfl) (vp_in_nI (by omega) (by decide)) ?_
      rw [nI_clamp (by omega), B.2.2.2 i (by omega)]
      refine ok_bipush (v := 32) dX3_look_28 (by decide) ?_
      refine ok_icmp_ne (tgt := 46) dX3_look_30 (by decide) (fun _ => ?_) (fun c9 => absurd c9 (fun c => R.2.2 ⟨c0, (sb_S _ (B.2.2.1 i)).mp c⟩))
      exact K h F e3
    · refine ok_aload_n dX3_look_8 rfl rfl ?_
      refine ok_getI dX3_look_9 f_X3_22 (by first | exact is_lit hv (by decide) rfl | exact is_sq hv hq | exact is_row hv hq | exact is_pn hv hq (by assumption) | assumption) rfl ?_
      refine ok_aload_n dX3_look_12 rfl rfl ?_
      refine ok_getI dX3_look_13 f_X3_15 (by first | exact is_lit hv (by decide) rfl | exact is_sq hv hq | exact is_row hv hq | exact is_pn hv hq (by assumption) | assumption) rfl ?_
      rw [e3, e1]
      refine ok_icmp_ge (tgt := 46) dX3_look_16 (by decide) (fun _ => ?_) (fun c9 => absurd (nI_le (by omega) (by omega)) c9)
      exact K h F e3
  | succ d ih =>
    intro i h hd hk F e3
    have hi : i < e := by omega
    obtain ⟨hiz, hP⟩ := R.2.1 i hk hi
    have hv := F.inv hv0
    have B := F.bt B0
    have hz := B.1
    have e1 := B.2.1
    refine ok_aload_n dX3_look_8 rfl rfl ?_
    refine ok_getI dX3_look_9 f_X3_22 (by first | exact is_lit hv (by decide) rfl | exact is_sq hv hq | exact is_row hv hq | exact is_pn hv hq (by assumption) | assumption) rfl ?_
    refine ok_aload_n dX3_look_12 rfl rfl ?_
    refine ok_getI dX3_look_13 f_X3_15 (by first | exact is_lit hv (by decide) rfl | exact is_sq hv hq | exact is_row hv hq | exact is_pn hv hq (by assumption) | assumption) rfl ?_
    rw [e3, e1]
    refine ok_icmp_ge (tgt := 46) dX3_look_16 (by decide) (fun c9 => absurd c9 (nI_ge hiz (by omega))) (fun _ => ?_)
    refine ok_aload_n dX3_look_19 rfl rfl ?_
    refine ok_getR dX3_look_20 f_X3_9 (by first | exact is_lit hv (by decide) rfl | exact is_sq hv hq | exact is_row hv hq | exact is_pn hv hq (by assumption) | assumption) rfl (by first | exact rf hv rfl | exact rf_row hv hq | assumption) ?_
    refine ok_aload_n dX3_look_23 rfl rfl ?_
    refine ok_getI dX3_look_24 f_X3_22 (by first | exact is_lit hv (by decide) rfl | exact is_sq hv hq | exact is_row hv hq | exact is_pn hv hq (by assumption) | assumption) rfl ?_
    rw [e3]
    refine ok_baload dX3_look_27 (is_lit hv (by decide) rfl) (vp_in_nI (by omega) (by decide)) ?_
    rw [nI_clamp (by omega), B.2.2.2 i (by omega)]
    refine ok_bipush (v := 32) dX3_look_28 (by decide) ?_
    refine ok_icmp_ne (tgt := 46) dX3_look_30 (by decide) (fun c9 => absurd c9 (fun c => c ((sb_S _ (B.2.2.1 i)).mpr hP))) (fun _ => ?_)
    refine ok_aload_n dX3_look_33 rfl rfl ?_
    refine ok_dup dX3_look_34 rfl ?_
    refine ok_getI dX3_look_35 f_X3_22 (by first | exact is_lit hv (by decide) rfl | exact is_sq hv hq | exact is_row hv hq | exact is_pn hv hq (by assumption) | assumption) rfl ?_
    refine ok_iconst (v := 1) dX3_look_38 (by decide) ?_
    refine ok_iadd dX3_look_39 ?_
    refine ok_putI dX3_look_40 f_X3_22 (by first | exact is_lit hv (by decide) rfl | exact is_sq hv hq | exact is_row hv hq | exact is_pn hv hq (by assumption) | assumption) rfl rfl rfl rfl ?_
    refine ok_goto (tgt := 8) dX3_look_43 (by decide) ?_
    exact ih (i + 1) _ (by omega) (by omega) (F.u (by decide)) (at_uI.trans (by rw [e3, nI_1]))
theorem lp_X3_look_91 {g : GG} {h0 : Hp} {Post : Option Value → Hp → Prop} (hv0 : Inv h0) {T : Nat → Nat} {z : Nat} (B0 : BT h0 T z)  {k e : Nat} (R : Run isL T z k e) (hez : e ≤ z) (K : ∀ h', FT h0 h' → hI h' 38 2 = 1 → hI h' 38 3 = nI k → hI h' 38 4 = nI e → Post none h') : ∀ (d i : Nat) (h : Hp), i + d = e → k ≤ i → FT h0 h → hI h 38 4 = nI i → hI h 38 2 = 1 → hI h 38 3 = nI k → Go g mX3_look 91 [some (.ref 38)] [] h (0, 0) Post := by
  intro d
  induction d with
  | zero =>
    intro i h hd hk F e4 e2 e3
    obtain rfl : i = e := by omega
    have hv := F.inv hv0
    have B := F.bt B0
    have hz := B.1
    have e1 := B.2.1
    by_cases c0 : i < z
    · refine ok_aload_n dX3_look_91 rfl rfl ?_
      refine ok_getI dX3_look_92 f_X3_25 (by first | exact is_lit hv (by decide) rfl | exact is_sq hv hq | exact is_row hv hq | exact is_pn hv hq (by assumption) | assumption) rfl ?_
      refine ok_aload_n dX3_look_95 rfl rfl ?_
      refine ok_getI dX3_look_96 f_X3_15 (by first | exact is_lit hv (by decide) rfl | exact is_sq hv hq | exact is_row hv hq | exact is_pn hv hq (by assumption) | assumption) rfl ?_
      rw [e4, e1]
      refine ok_icmp_ge (tgt := 130) dX3_look_99 (by decide) (fun c9 => absurd c9 (nI_ge c0 (by omega))) (fun _ => ?_)
      refine ok_aload_n dX3_look_102 rfl rfl ?_
      refine ok_getR dX3_look_103 f_X3_9 (by first | exact is_lit hv (by decide) rfl | exact is_sq hv hq | exact is_row hv hq | exact is_pn hv hq (by assumption) | assumption) rfl (by first | exact rf hv rfl | exact rf_row hv hq | assumption) ?_
      refine ok_aload_n dX3_look_106 rfl rfl ?_
      refine ok_getI dX3_look_107 f_X3_25 (by first | exact is_lit hv (by decide) rfl | exact is_sq hv hq | exact is_row hv hq | exact is_pn hv hq (by assumption) | assumption) rfl ?_
      rw [e4]
      refine ok_baload dX3_look_110 (is_lit hv (by decide) rfl) (vp_in_nI (by omega) (by decide)) ?_
      rw [nI_clamp (by omega), B.2.2.2 i (by omega)]
      refine ok_callS (M' := mX3_isLetter) (b' := (0, 0)) (As := [_]) dX3_look_111 iX3_isLetter w_560 rfl (Nat.le_of_ble_eq_true rfl) ⟨Nat.le_of_ble_eq_true rfl, Nat.le_of_ble_eq_true rfl⟩ (Nat.le_of_ble_eq_true rfl) rfl rfl ?_
      refine sp_X3_isLetter (B.2.2.1 i) ?_
      refine ok_if_eq (tgt := 130) dX3_look_114 (by decide) (fun _ => ?_) (fun c9 => absurd (if_neg (fun c => R.2.2 ⟨c0, c⟩)) c9)
      refine ok_return dX3_look_130 rfl ?_
      exact K h F e2 e3 e4
    · refine ok_aload_n dX3_look_91 rfl rfl ?_
      refine ok_getI dX3_look_92 f_X3_25 (by first | exact is_lit hv (by decide) rfl | exact is_sq hv hq | exact is_row hv hq | exact is_pn hv hq (by assumption) | assumption) rfl ?_
      refine ok_aload_n dX3_look_95 rfl rfl ?_
      refine ok_getI dX3_look_96 f_X3_15 (by first | exact is_lit hv (by decide) rfl | exact is_sq hv hq | exact is_row hv hq | exact is_pn hv hq (by assumption) | assumption) rfl ?_
      rw [e4, e1]
      refine ok_icmp_ge (tgt := 130) dX3_look_99 (by decide) (fun _ => ?_) (fun c9 => absurd (nI_le (by omega) (by omega)) c9)
      refine ok_return dX3_look_130 rfl ?_
      exact K h F e2 e3 e4
  | succ d ih =>
    intro i h hd hk F e4 e2 e3
    have hi : i < e := by omega
    obtain ⟨hiz, hP⟩ := R.2.1 i hk hi
    have hv := F.inv hv0
    have B := F.bt B0
    have hz := B.1
    have e1 := B.2.1
    refine ok_aload_n dX3_look_91 rfl rfl ?_
    refine ok_getI dX3_look_92 f_X3_25 (by first | exact is_lit hv (by decide) rfl | exact is_sq hv hq | exact is_row hv hq | exact is_pn hv hq (by assumption) | assumption) rfl ?_
    refine ok_aload_n dX3_look_95 rfl rfl ?_
    refine ok_getI dX3_look_96 f_X3_15 (by first | exact is_lit hv (by decide) rfl | exact is_sq hv hq | exact is_row hv hq | exact is_pn hv hq (by assumption) | assumption) rfl ?_
    rw [e4, e1]
    refine ok_icmp_ge (tgt := 130) dX3_look_99 (by decide) (fun c9 => absurd c9 (nI_ge hiz (by omega))) (fun _ => ?_)
    refine ok_aload_n dX3_look_102 rfl rfl ?_
    refine ok_getR dX3_look_103 f_X3_9 (by first | exact is_lit hv (by decide) rfl | exact is_sq hv hq | exact is_row hv hq | exact is_pn hv hq (by assumption) | assumption) rfl (by first | exact rf hv rfl | exact rf_row hv hq | assumption) ?_
    refine ok_aload_n dX3_look_106 rfl rfl ?_
    refine ok_getI dX3_look_107 f_X3_25 (by first | exact is_lit hv (by decide) rfl | exact is_sq hv hq | exact is_row hv hq | exact is_pn hv hq (by assumption) | assumption) rfl ?_
    rw [e4]
    refine ok_baload dX3_look_110 (is_lit hv (by decide) rfl) (vp_in_nI (by omega) (by decide)) ?_
    rw [nI_clamp (by omega), B.2.2.2 i (by omega)]
    refine ok_callS (M' := mX3_isLetter) (b' := (0, 0)) (As := [_]) dX3_look_111 iX3_isLetter w_560 rfl (Nat.le_of_ble_eq_true rfl) ⟨Nat.le_of_ble_eq_true rfl, Nat.le_of_ble_eq_true rfl⟩ (Nat.le_of_ble_eq_true rfl) rfl rfl ?_
    refine sp_X3_isLetter (B.2.2.1 i) ?_
    refine ok_if_eq (tgt := 130) dX3_look_114 (by decide) (fun c9 => absurd c9 (by rw [if_pos hP]; decide)) (fun _ => ?_)
    refine ok_aload_n dX3_look_117 rfl rfl ?_
    refine ok_dup dX3_look_118 rfl ?_
    refine ok_getI dX3_look_119 f_X3_25 (by first | exact is_lit hv (by decide) rfl | exact is_sq hv hq | exact is_row hv hq | exact is_pn hv hq (by assumption) | assumption) rfl ?_
    refine ok_iconst (v := 1) dX3_look_122 (by decide) ?_
    refine ok_iadd dX3_look_123 ?_
    refine ok_putI dX3_look_124 f_X3_25 (by first | exact is_lit hv (by decide) rfl | exact is_sq hv hq | exact is_row hv hq | exact is_pn hv hq (by assumption) | assumption) rfl rfl rfl rfl ?_
    refine ok_goto (tgt := 91) dX3_look_127 (by decide) ?_
    exact ih (i + 1) _ (by omega) (by omega) (F.u (by decide)) (at_uI.trans (by rw [e4, nI_1])) ((at_un (by decide)).trans e2) ((at_un (by decide)).trans e3)
theorem nu_st0 : ∀ t, t < 256 → isD t = true → 48 ≤ t ∧ t ≤ 57 ∧ (sb t).toInt = t := by decide +kernel
theorem nu_st {T : Nat → Nat} {k i : Nat} (hk : k ≤ i) (ht : T i < 256) (hd : isD (T i) = true) : (if 10 * nI (nu T k (i - k)) + sb (T i) - 48 < 1000 then 10 * nI (nu T k (i - k)) + sb (T i) - 48 else 1000) = nI (nu T k (i + 1 - k)) := by
  obtain ⟨d1, d2, d3⟩ := nu_st0 (T i) ht hd
  have hl := nu_le T k (i - k)
  have e1 : (nI (nu T k (i - k))).toInt = nu T k (i - k) := nI_toInt (by omega)
  have e10 : (10 : Int32).toInt = 10 := rfl
  have e48 : (48 : Int32).toInt = 48 := rfl
  have e1000 : (1000 : Int32).toInt = 1000 := rfl
  have em : (10 * nI (nu T k (i - k))).toInt = 10 * nu T k (i - k) := by
    rw [Int32.toInt_mul, e1, e10, fb_bmod (by omega) (by omega)]
  have ea : (10 * nI (nu T k (i - k)) + sb (T i)).toInt = 10 * nu T k (i - k) + T i := by
    rw [fb_addI (by rw [em, d3]; omega) (by rw [em, d3]; omega), em, d3]
  have es : (10 * nI (nu T k (i - k)) + sb (T i) - 48).toInt = 10 * nu T k (i - k) + T i - 48 := by
    rw [fb_subI (by rw [ea, e48]; omega) (by rw [ea, e48]; omega), ea, e48]
  rw [show i + 1 - k = (i - k) + 1 by omega, nu, show k + (i - k) = i by omega]
  split
  · rename_i c
    rw [i_lt, es, e1000] at c
    rw [i_eq, es, nI_toInt (by omega)]
    omega
  · rename_i c
    rw [i_lt, es, e1000] at c
    rw [i_eq, e1000, nI_toInt (by omega)]
    omega
theorem lp_X3_look_156 {g : GG} {h0 : Hp} {Post : Option Value → Hp → Prop} (hv0 : Inv h0) {T : Nat → Nat} {z : Nat} (B0 : BT h0 T z)  {k e : Nat} (R : Run isD T z k e) (hez : e ≤ z) (K : ∀ h', FT h0 h' → hI h' 38 2 = 2 → hI h' 38 3 = nI k → hI h' 38 4 = nI e → hI h' 38 5 = nI (nu T k (e - k)) → Post none h') : ∀ (d i : Nat) (h : Hp), i + d = e → k ≤ i → FT h0 h → hI h 38 4 = nI i → hI h 38 2 = 2 → hI h 38 3 = nI k → hI h 38 5 = nI (nu T k (i - k)) → Go g mX3_look 156 [some (.ref 38)] [] h (0, 0) Post := by
  intro d
  induction d with
  | zero =>
    intro i h hd hk F e4 e2 e3 e5
    obtain rfl : i = e := by omega
    have hv := F.inv hv0
    have B := F.bt B0
    have hz := B.1
    have e1 := B.2.1
    by_cases c0 : i < z
    · refine ok_aload_n dX3_look_156 rfl rfl ?_
      refine ok_getI dX3_look_157 f_X3_25 (by first | exact is_lit hv (by decide) rfl | exact is_sq hv hq | exact is_row hv hq | exact is_pn hv hq (by assumption) | assumption) rfl ?_
      refine ok_aload_n dX3_look_160 rfl rfl ?_
      refine ok_getI dX3_look_161 f_X3_15 (by first | exact is_lit hv (by decide) rfl | exact is_sq hv hq | exact is_row hv hq | exact is_pn hv hq (by assumption) | assumption) rfl ?_
      rw [e4, e1]
      refine ok_icmp_ge (tgt := 225) dX3_look_164 (by decide) (fun c9 => absurd c9 (nI_ge c0 (by omega))) (fun _ => ?_)
      refine ok_aload_n dX3_look_167 rfl rfl ?_
      refine ok_getR dX3_look_168 f_X3_9 (by first | exact is_lit hv (by decide) rfl | exact is_sq hv hq | exact is_row hv hq | exact is_pn hv hq (by assumption) | assumption) rfl (by first | exact rf hv rfl | exact rf_row hv hq | assumption) ?_
      refine ok_aload_n dX3_look_171 rfl rfl ?_
      refine ok_getI dX3_look_172 f_X3_25 (by first | exact is_lit hv (by decide) rfl | exact is_sq hv hq | exact is_row hv hq | exact is_pn hv hq (by assumption) | assumption) rfl ?_
      rw [e4]
      refine ok_baload dX3_look_175 (is_lit hv (by decide) rfl) (vp_in_nI (by omega) (by decide)) ?_
      rw [nI_clamp (by omega), B.2.2.2 i (by omega)]
      refine ok_callS (M' := mX3_isDigit) (b' := (0, 0)) (As := [_]) dX3_look_176 iX3_isDigit w_563 rfl (Nat.le_of_ble_eq_true rfl) ⟨Nat.le_of_ble_eq_true rfl, Nat.le_of_ble_eq_true rfl⟩ (Nat.le_of_ble_eq_true rfl) rfl rfl ?_
      refine sp_X3_isDigit (B.2.2.1 i) ?_
      refine ok_if_eq (tgt := 225) dX3_look_179 (by decide) (fun _ => ?_) (fun c9 => absurd (if_neg (fun c => R.2.2 ⟨c0, c⟩)) c9)
      refine ok_return dX3_look_225 rfl ?_
      exact K h F e2 e3 e4 e5
    · refine ok_aload_n dX3_look_156 rfl rfl ?_
      refine ok_getI dX3_look_157 f_X3_25 (by first | exact is_lit hv (by decide) rfl | exact is_sq hv hq | exact is_row hv hq | exact is_pn hv hq (by assumption) | assumption) rfl ?_
      refine ok_aload_n dX3_look_160 rfl rfl ?_
      refine ok_getI dX3_look_161 f_X3_15 (by first | exact is_lit hv (by decide) rfl | exact is_sq hv hq | exact is_row hv hq | exact is_pn hv hq (by assumption) | assumption) rfl ?_
      rw [e4, e1]
      refine ok_icmp_ge (tgt := 225) dX3_look_164 (by decide) (fun _ => ?_) (fun c9 => absurd (nI_le (by omega) (by omega)) c9)
      refine ok_return dX3_look_225 rfl ?_
      exact K h F e2 e3 e4 e5
  | succ d ih =>
    intro i h hd hk F e4 e2 e3 e5
    have hi : i < e := by omega
    obtain ⟨hiz, hP⟩ := R.2.1 i hk hi
    have hv := F.inv hv0
    have B := F.bt B0
    have hz := B.1
    have e1 := B.2.1
    refine ok_aload_n dX3_look_156 rfl rfl ?_
    refine ok_getI dX3_look_157 f_X3_25 (by first | exact is_lit hv (by decide) rfl | exact is_sq hv hq | exact is_row hv hq | exact is_pn hv hq (by assumption) | assumption) rfl ?_
    refine ok_aload_n dX3_look_160 rfl rfl ?_
    refine ok_getI dX3_look_161 f_X3_15 (by first | exact is_lit hv (by decide) rfl | exact is_sq hv hq | exact is_row hv hq | exact is_pn hv hq (by assumption) | assumption) rfl ?_
    rw [e4, e1]
    refine ok_icmp_ge (tgt := 225) dX3_look_164 (by decide) (fun c9 => absurd c9 (nI_ge hiz (by omega))) (fun _ => ?_)
    refine ok_aload_n dX3_look_167 rfl rfl ?_
    refine ok_getR dX3_look_168 f_X3_9 (by first | exact is_lit hv (by decide) rfl | exact is_sq hv hq | exact is_row hv hq | exact is_pn hv hq (by assumption) | assumption) rfl (by first | exact rf hv rfl | exact rf_row hv hq | assumption) ?_
    refine ok_aload_n dX3_look_171 rfl rfl ?_
    refine ok_getI dX3_look_172 f_X3_25 (by first | exact is_lit hv (by decide) rfl | exact is_sq hv hq | exact is_row hv hq | exact is_pn hv hq (by assumption) | assumption) rfl ?_
    rw [e4]
    refine ok_baload dX3_look_175 (is_lit hv (by decide) rfl) (vp_in_nI (by omega) (by decide)) ?_
    rw [nI_clamp (by omega), B.2.2.2 i (by omega)]
    refine ok_callS (M' := mX3_isDigit) (b' := (0, 0)) (As := [_]) dX3_look_176 iX3_isDigit w_563 rfl (Nat.le_of_ble_eq_true rfl) ⟨Nat.le_of_ble_eq_true rfl, Nat.le_of_ble_eq_true rfl⟩ (Nat.le_of_ble_eq_true rfl) rfl rfl ?_
    refine sp_X3_isDigit (B.2.2.1 i) ?_
    refine ok_if_eq (tgt := 225) dX3_look_179 (by decide) (fun c9 => absurd c9 (by rw [if_pos hP]; decide)) (fun _ => ?_)
    refine ok_aload_n dX3_look_182 rfl rfl ?_
    refine ok_sipush (v := 1000) dX3_look_183 (by decide) ?_
    refine ok_bipush (v := 10) dX3_look_186 (by decide) ?_
    refine ok_aload_n dX3_look_188 rfl rfl ?_
    refine ok_getI dX3_look_189 f_X3_28 (by first | exact is_lit hv (by decide) rfl | exact is_sq hv hq | exact is_row hv hq | exact is_pn hv hq (by assumption) | assumption) rfl ?_
    rw [e5]
    refine ok_imul dX3_look_192 ?_
    refine ok_aload_n dX3_look_193 rfl rfl ?_
    refine ok_getR dX3_look_194 f_X3_9 (by first | exact is_lit hv (by decide) rfl | exact is_sq hv hq | exact is_row hv hq | exact is_pn hv hq (by assumption) | assumption) rfl (by first | exact rf hv rfl | exact rf_row hv hq | assumption) ?_
    refine ok_aload_n dX3_look_197 rfl rfl ?_
    refine ok_getI dX3_look_198 f_X3_25 (by first | exact is_lit hv (by decide) rfl | exact is_sq hv hq | exact is_row hv hq | exact is_pn hv hq (by assumption) | assumption) rfl ?_
    rw [e4]
    refine ok_baload dX3_look_201 (is_lit hv (by decide) rfl) (vp_in_nI (by omega) (by decide)) ?_
    rw [nI_clamp (by omega), B.2.2.2 i (by omega)]
    refine ok_iadd dX3_look_202 ?_
    refine ok_bipush (v := 48) dX3_look_203 (by decide) ?_
    refine ok_isub dX3_look_205 ?_
    refine ok_min dX3_look_206 w_566 w_293 w_71 w_294 (Nat.le_of_ble_eq_true rfl) (Nat.le_of_ble_eq_true rfl) ?_
    rw [nu_st (T := T) (k := k) hk (B.2.2.1 i) hP]
    refine ok_putI dX3_look_209 f_X3_28 (by first | exact is_lit hv (by decide) rfl | exact is_sq hv hq | exact is_row hv hq | exact is_pn hv hq (by assumption) | assumption) rfl rfl rfl rfl ?_
    refine ok_aload_n dX3_look_212 rfl rfl ?_
    refine ok_dup dX3_look_213 rfl ?_
    refine ok_getI dX3_look_214 f_X3_25 (by first | exact is_lit hv (by decide) rfl | exact is_sq hv hq | exact is_row hv hq | exact is_pn hv hq (by assumption) | assumption) rfl ?_
    refine ok_iconst (v := 1) dX3_look_217 (by decide) ?_
    refine ok_iadd dX3_look_218 ?_
    refine ok_putI dX3_look_219 f_X3_25 (by first | exact is_lit hv (by decide) rfl | exact is_sq hv hq | exact is_row hv hq | exact is_pn hv hq (by assumption) | assumption) rfl rfl rfl rfl ?_
    refine ok_goto (tgt := 156) dX3_look_222 (by decide) ?_
    exact ih (i + 1) _ (by omega) (by omega) ((F.u (by decide)).u (by decide)) (at_uI.trans (by rw [at_un (by decide), e4, nI_1])) ((at_un (by decide)).trans ((at_un (by decide)).trans e2)) ((at_un (by decide)).trans ((at_un (by decide)).trans e3)) ((at_un (by decide)).trans at_uI)
theorem lp_X3_look_46 {g : GG} {h0 : Hp} {Post : Option Value → Hp → Prop} (hv0 : Inv h0) {T : Nat → Nat} {z : Nat} (B0 : BT h0 T z) {k : Nat} (hk : k ≤ z) (K : ∀ h', FT h0 h' → Tok h' T z k → Post none h') (h : Hp) (F : FT h0 h) (e3 : hI h 38 3 = nI (tF T z k)) : Go g mX3_look 46 [some (.ref 38)] [] h (0, 0) Post := by
  have hv := F.inv hv0
  have B := F.bt B0
  have hz := B.1
  have e1 := B.2.1
  obtain ⟨f1, f2⟩ := tF_le (T := T) hk
  by_cases c1 : z ≤ tF T z k
  · refine ok_aload_n dX3_look_46 rfl rfl ?_
    refine ok_aload_n dX3_look_47 rfl rfl ?_
    refine ok_getI dX3_look_48 f_X3_22 (by first | exact is_lit hv (by decide) rfl | exact is_sq hv hq | exact is_row hv hq | exact is_pn hv hq (by assumption) | assumption) rfl ?_
    rw [e3]
    have F1 := F.u (k := 4) (v := nI (tF T z k)) (by decide)
    have g3 : hI (uI h 38 4 (nI (tF T z k))) 38 3 = nI (tF T z k) := (at_un (by decide)).trans e3
    have g1 : hI (uI h 38 4 (nI (tF T z k))) 38 1 = nI z := (at_un (by decide)).trans e1
    have gv := F1.inv hv0
    refine ok_putI dX3_look_51 f_X3_25 (by first | exact is_lit hv (by decide) rfl | exact is_sq hv hq | exact is_row hv hq | exact is_pn hv hq (by assumption) | assumption) rfl rfl rfl rfl ?_
    refine ok_aload_n dX3_look_54 rfl rfl ?_
    refine ok_getI dX3_look_55 f_X3_22 (by first | exact is_lit hv (by decide) rfl | exact is_sq hv hq | exact is_row hv hq | exact is_pn hv hq (by assumption) | assumption) rfl ?_
    refine ok_aload_n dX3_look_58 rfl rfl ?_
    refine ok_getI dX3_look_59 f_X3_15 (by first | exact is_lit hv (by decide) rfl | exact is_sq hv hq | exact is_row hv hq | exact is_pn hv hq (by assumption) | assumption) rfl ?_
    rw [g3, g1]
    refine ok_icmp_lt (tgt := 71) dX3_look_62 (by decide) (fun c9 => absurd c9 (nI_nlt (a := tF T z k) (b := z) (by omega) (by omega))) (fun _ => ?_)
    refine ok_aload_n dX3_look_65 rfl rfl ?_
    refine ok_iconst (v := 0) dX3_look_66 (by decide) ?_
    refine ok_putI dX3_look_67 f_X3_19 (by first | exact is_lit hv (by decide) rfl | exact is_sq hv hq | exact is_row hv hq | exact is_pn hv hq (by assumption) | assumption) rfl rfl rfl rfl ?_
    refine ok_return dX3_look_70 rfl ?_
    have t0 : tT T z k = 0 := if_pos c1
    refine K _ (F1.u (by decide)) ⟨at_uI.trans (by rw [t0]; rfl), (at_un (by decide)).trans g3, (at_un (by decide)).trans (at_uI.trans (by rw [tB, if_pos t0])), fun c => absurd (t0.symm.trans c) (by decide)⟩
  · by_cases c2 : isL (T (tF T z k)) = true
    · refine ok_aload_n dX3_look_46 rfl rfl ?_
      refine ok_aload_n dX3_look_47 rfl rfl ?_
      refine ok_getI dX3_look_48 f_X3_22 (by first | exact is_lit hv (by decide) rfl | exact is_sq hv hq | exact is_row hv hq | exact is_pn hv hq (by assumption) | assumption) rfl ?_
      rw [e3]
      have F1 := F.u (k := 4) (v := nI (tF T z k)) (by decide)
      have g3 : hI (uI h 38 4 (nI (tF T z k))) 38 3 = nI (tF T z k) := (at_un (by decide)).trans e3
      have g1 : hI (uI h 38 4 (nI (tF T z k))) 38 1 = nI z := (at_un (by decide)).trans e1
      have gv := F1.inv hv0
      have b9 : hI (uI h 38 4 (nI (tF T z k))) 39 (tF T z k) = sb (T (tF T z k)) := (F1.bt B0).2.2.2 _ (by omega)
      refine ok_putI dX3_look_51 f_X3_25 (by first | exact is_lit hv (by decide) rfl | exact is_sq hv hq | exact is_row hv hq | exact is_pn hv hq (by assumption) | assumption) rfl rfl rfl rfl ?_
      refine ok_aload_n dX3_look_54 rfl rfl ?_
      refine ok_getI dX3_look_55 f_X3_22 (by first | exact is_lit hv (by decide) rfl | exact is_sq hv hq | exact is_row hv hq | exact is_pn hv hq (by assumption) | assumption) rfl ?_
      refine ok_aload_n dX3_look_58 rfl rfl ?_
      refine ok_getI dX3_look_59 f_X3_15 (by first | exact is_lit hv (by decide) rfl | exact is_sq hv hq | exact is_row hv hq | exact is_pn hv hq (by assumption) | assumption) rfl ?_
      rw [g3, g1]
      refine ok_icmp_lt (tgt := 71) dX3_look_62 (by decide) (fun _ => ?_) (fun c9 => absurd (nI_lt (by omega) (by omega)) c9)
      refine ok_aload_n dX3_look_71 rfl rfl ?_
      refine ok_getR dX3_look_72 f_X3_9 (by first | exact is_lit hv (by decide) rfl | exact is_sq hv hq | exact is_row hv hq | exact is_pn hv hq (by assumption) | assumption) rfl (by first | exact rf hv rfl | exact rf_row hv hq | assumption) ?_
      refine ok_aload_n dX3_look_75 rfl rfl ?_
      refine ok_getI dX3_look_76 f_X3_22 (by first | exact is_lit hv (by decide) rfl | exact is_sq hv hq | exact is_row hv hq | exact is_pn hv hq (by assumption) | assumption) rfl ?_
      rw [g3]
      refine ok_baload dX3_look_79 (is_lit gv (by decide) rfl) (vp_in_nI (by omega) (by decide)) ?_
      rw [nI_clamp (by omega), b9]
      refine ok_callS (M' := mX3_isLetter) (b' := (0, 0)) (As := [_]) dX3_look_80 iX3_isLetter w_560 rfl (Nat.le_of_ble_eq_true rfl) ⟨Nat.le_of_ble_eq_true rfl, Nat.le_of_ble_eq_true rfl⟩ (Nat.le_of_ble_eq_true rfl) rfl rfl ?_
      refine sp_X3_isLetter (B0.2.2.1 _) ?_
      refine ok_if_eq (tgt := 131) dX3_look_83 (by decide) (fun c9 => absurd c9 (by rw [if_pos c2]; decide)) (fun _ => ?_)
      refine ok_aload_n dX3_look_86 rfl rfl ?_
      refine ok_iconst (v := 1) dX3_look_87 (by decide) ?_
      refine ok_putI dX3_look_88 f_X3_19 (by first | exact is_lit hv (by decide) rfl | exact is_sq hv hq | exact is_row hv hq | exact is_pn hv hq (by assumption) | assumption) rfl rfl rfl rfl ?_
      have t1 : tT T z k = 1 := (if_neg c1).trans (if_pos c2)
      have tb : tB T z k = rne isL T z (tF T z k) := by rw [tB, if_neg (by omega), if_pos t1]
      have R := rne_run isL T z (tF T z k)
      refine lp_X3_look_91 hv0 B0 R (R.le f2) (fun h' F' q2 q3 q4 => K h' F' ⟨q2.trans (by rw [t1]; rfl), q3, q4.trans (by rw [tb]), fun c => absurd (t1.symm.trans c) (by decide)⟩) _ _ _ (Nat.add_sub_cancel' R.1) (Nat.le_refl _) (F1.u (by decide)) ((at_un (by decide)).trans at_uI) at_uI ((at_un (by decide)).trans g3)
    · by_cases c3 : isD (T (tF T z k)) = true
      · refine ok_aload_n dX3_look_46 rfl rfl ?_
        refine ok_aload_n dX3_look_47 rfl rfl ?_
        refine ok_getI dX3_look_48 f_X3_22 (by first | exact is_lit hv (by decide) rfl | exact is_sq hv hq | exact is_row hv hq | exact is_pn hv hq (by assumption) | assumption) rfl ?_
        rw [e3]
        have F1 := F.u (k := 4) (v := nI (tF T z k)) (by decide)
        have g3 : hI (uI h 38 4 (nI (tF T z k))) 38 3 = nI (tF T z k) := (at_un (by decide)).trans e3
        have g1 : hI (uI h 38 4 (nI (tF T z k))) 38 1 = nI z := (at_un (by decide)).trans e1
        have gv := F1.inv hv0
        have b9 : hI (uI h 38 4 (nI (tF T z k))) 39 (tF T z k) = sb (T (tF T z k)) := (F1.bt B0).2.2.2 _ (by omega)
        refine ok_putI dX3_look_51 f_X3_25 (by first | exact is_lit hv (by decide) rfl | exact is_sq hv hq | exact is_row hv hq | exact is_pn hv hq (by assumption) | assumption) rfl rfl rfl rfl ?_
        refine ok_aload_n dX3_look_54 rfl rfl ?_
        refine ok_getI dX3_look_55 f_X3_22 (by first | exact is_lit hv (by decide) rfl | exact is_sq hv hq | exact is_row hv hq | exact is_pn hv hq (by assumption) | assumption) rfl ?_
        refine ok_aload_n dX3_look_58 rfl rfl ?_
        refine ok_getI dX3_look_59 f_X3_15 (by first | exact is_lit hv (by decide) rfl | exact is_sq hv hq | exact is_row hv hq | exact is_pn hv hq (by assumption) | assumption) rfl ?_
        rw [g3, g1]
        refine ok_icmp_lt (tgt := 71) dX3_look_62 (by decide) (fun _ => ?_) (fun c9 => absurd (nI_lt (by omega) (by omega)) c9)
        refine ok_aload_n dX3_look_71 rfl rfl ?_
        refine ok_getR dX3_look_72 f_X3_9 (by first | exact is_lit hv (by decide) rfl | exact is_sq hv hq | exact is_row hv hq | exact is_pn hv hq (by assumption) | assumption) rfl (by first | exact rf hv rfl | exact rf_row hv hq | assumption) ?_
        refine ok_aload_n dX3_look_75 rfl rfl ?_
        refine ok_getI dX3_look_76 f_X3_22 (by first | exact is_lit hv (by decide) rfl | exact is_sq hv hq | exact is_row hv hq | exact is_pn hv hq (by assumption) | assumption) rfl ?_
        rw [g3]
        refine ok_baload dX3_look_79 (is_lit gv (by decide) rfl) (vp_in_nI (by omega) (by decide)) ?_
        rw [nI_clamp (by omega), b9]
        refine ok_callS (M' := mX3_isLetter) (b' := (0, 0)) (As := [_]) dX3_look_80 iX3_isLetter w_560 rfl (Nat.le_of_ble_eq_true rfl) ⟨Nat.le_of_ble_eq_true rfl, Nat.le_of_ble_eq_true rfl⟩ (Nat.le_of_ble_eq_true rfl) rfl rfl ?_
        refine sp_X3_isLetter (B0.2.2.1 _) ?_
        refine ok_if_eq (tgt := 131) dX3_look_83 (by decide) (fun _ => ?_) (fun c9 => absurd (if_neg c2) c9)
        refine ok_aload_n dX3_look_131 rfl rfl ?_
        refine ok_getR dX3_look_132 f_X3_9 (by first | exact is_lit hv (by decide) rfl | exact is_sq hv hq | exact is_row hv hq | exact is_pn hv hq (by assumption) | assumption) rfl (by first | exact rf hv rfl | exact rf_row hv hq | assumption) ?_
        refine ok_aload_n dX3_look_135 rfl rfl ?_
        refine ok_getI dX3_look_136 f_X3_22 (by first | exact is_lit hv (by decide) rfl | exact is_sq hv hq | exact is_row hv hq | exact is_pn hv hq (by assumption) | assumption) rfl ?_
        rw [g3]
        refine ok_baload dX3_look_139 (is_lit gv (by decide) rfl) (vp_in_nI (by omega) (by decide)) ?_
        rw [nI_clamp (by omega), b9]
        refine ok_callS (M' := mX3_isDigit) (b' := (0, 0)) (As := [_]) dX3_look_140 iX3_isDigit w_563 rfl (Nat.le_of_ble_eq_true rfl) ⟨Nat.le_of_ble_eq_true rfl, Nat.le_of_ble_eq_true rfl⟩ (Nat.le_of_ble_eq_true rfl) rfl rfl ?_
        refine sp_X3_isDigit (B0.2.2.1 _) ?_
        refine ok_if_eq (tgt := 226) dX3_look_143 (by decide) (fun c9 => absurd c9 (by rw [if_pos c3]; decide)) (fun _ => ?_)
        refine ok_aload_n dX3_look_146 rfl rfl ?_
        refine ok_iconst (v := 2) dX3_look_147 (by decide) ?_
        refine ok_putI dX3_look_148 f_X3_19 (by first | exact is_lit hv (by decide) rfl | exact is_sq hv hq | exact is_row hv hq | exact is_pn hv hq (by assumption) | assumption) rfl rfl rfl rfl ?_
        refine ok_aload_n dX3_look_151 rfl rfl ?_
        refine ok_iconst (v := 0) dX3_look_152 (by decide) ?_
        refine ok_putI dX3_look_153 f_X3_28 (by first | exact is_lit hv (by decide) rfl | exact is_sq hv hq | exact is_row hv hq | exact is_pn hv hq (by assumption) | assumption) rfl rfl rfl rfl ?_
        have t1 : tT T z k = 2 := (if_neg c1).trans ((if_neg c2).trans (if_pos c3))
        have tb : tB T z k = rne isD T z (tF T z k) := by rw [tB, if_neg (by omega), if_neg (by omega), if_pos t1]
        have R := rne_run isD T z (tF T z k)
        refine lp_X3_look_156 hv0 B0 R (R.le f2) (fun h' F' q2 q3 q4 q5 => K h' F' ⟨q2.trans (by rw [t1]; rfl), q3, q4.trans (by rw [tb]), fun _ => q5.trans (by rw [tN, tb])⟩) _ _ _ (Nat.add_sub_cancel' R.1) (Nat.le_refl _) ((F1.u (by decide)).u (by decide)) ((at_un (by decide)).trans ((at_un (by decide)).trans at_uI)) ((at_un (by decide)).trans at_uI) ((at_un (by decide)).trans ((at_un (by decide)).trans g3)) (at_uI.trans (by rw [Nat.sub_self]; rfl))
      · refine ok_aload_n dX3_look_46 rfl rfl ?_
        refine ok_aload_n dX3_look_47 rfl rfl ?_
        refine ok_getI dX3_look_48 f_X3_22 (by first | exact is_lit hv (by decide) rfl | exact is_sq hv hq | exact is_row hv hq | exact is_pn hv hq (by assumption) | assumption) rfl ?_
        rw [e3]
        have F1 := F.u (k := 4) (v := nI (tF T z k)) (by decide)
        have g3 : hI (uI h 38 4 (nI (tF T z k))) 38 3 = nI (tF T z k) := (at_un (by decide)).trans e3
        have g1 : hI (uI h 38 4 (nI (tF T z k))) 38 1 = nI z := (at_un (by decide)).trans e1
        have gv := F1.inv hv0
        have b9 : hI (uI h 38 4 (nI (tF T z k))) 39 (tF T z k) = sb (T (tF T z k)) := (F1.bt B0).2.2.2 _ (by omega)
        refine ok_putI dX3_look_51 f_X3_25 (by first | exact is_lit hv (by decide) rfl | exact is_sq hv hq | exact is_row hv hq | exact is_pn hv hq (by assumption) | assumption) rfl rfl rfl rfl ?_
        refine ok_aload_n dX3_look_54 rfl rfl ?_
        refine ok_getI dX3_look_55 f_X3_22 (by first | exact is_lit hv (by decide) rfl | exact is_sq hv hq | exact is_row hv hq | exact is_pn hv hq (by assumption) | assumption) rfl ?_
        refine ok_aload_n dX3_look_58 rfl rfl ?_
        refine ok_getI dX3_look_59 f_X3_15 (by first | exact is_lit hv (by decide) rfl | exact is_sq hv hq | exact is_row hv hq | exact is_pn hv hq (by assumption) | assumption) rfl ?_
        rw [g3, g1]
        refine ok_icmp_lt (tgt := 71) dX3_look_62 (by decide) (fun _ => ?_) (fun c9 => absurd (nI_lt (by omega) (by omega)) c9)
        refine ok_aload_n dX3_look_71 rfl rfl ?_
        refine ok_getR dX3_look_72 f_X3_9 (by first | exact is_lit hv (by decide) rfl | exact is_sq hv hq | exact is_row hv hq | exact is_pn hv hq (by assumption) | assumption) rfl (by first | exact rf hv rfl | exact rf_row hv hq | assumption) ?_
        refine ok_aload_n dX3_look_75 rfl rfl ?_
        refine ok_getI dX3_look_76 f_X3_22 (by first | exact is_lit hv (by decide) rfl | exact is_sq hv hq | exact is_row hv hq | exact is_pn hv hq (by assumption) | assumption) rfl ?_
        rw [g3]
        refine ok_baload dX3_look_79 (is_lit gv (by decide) rfl) (vp_in_nI (by omega) (by decide)) ?_
        rw [nI_clamp (by omega), b9]
        refine ok_callS (M' := mX3_isLetter) (b' := (0, 0)) (As := [_]) dX3_look_80 iX3_isLetter w_560 rfl (Nat.le_of_ble_eq_true rfl) ⟨Nat.le_of_ble_eq_true rfl, Nat.le_of_ble_eq_true rfl⟩ (Nat.le_of_ble_eq_true rfl) rfl rfl ?_
        refine sp_X3_isLetter (B0.2.2.1 _) ?_
        refine ok_if_eq (tgt := 131) dX3_look_83 (by decide) (fun _ => ?_) (fun c9 => absurd (if_neg c2) c9)
        refine ok_aload_n dX3_look_131 rfl rfl ?_
        refine ok_getR dX3_look_132 f_X3_9 (by first | exact is_lit hv (by decide) rfl | exact is_sq hv hq | exact is_row hv hq | exact is_pn hv hq (by assumption) | assumption) rfl (by first | exact rf hv rfl | exact rf_row hv hq | assumption) ?_
        refine ok_aload_n dX3_look_135 rfl rfl ?_
        refine ok_getI dX3_look_136 f_X3_22 (by first | exact is_lit hv (by decide) rfl | exact is_sq hv hq | exact is_row hv hq | exact is_pn hv hq (by assumption) | assumption) rfl ?_
        rw [g3]
        refine ok_baload dX3_look_139 (is_lit gv (by decide) rfl) (vp_in_nI (by omega) (by decide)) ?_
        rw [nI_clamp (by omega), b9]
        refine ok_callS (M' := mX3_isDigit) (b' := (0, 0)) (As := [_]) dX3_look_140 iX3_isDigit w_563 rfl (Nat.le_of_ble_eq_true rfl) ⟨Nat.le_of_ble_eq_true rfl, Nat.le_of_ble_eq_true rfl⟩ (Nat.le_of_ble_eq_true rfl) rfl rfl ?_
        refine sp_X3_isDigit (B0.2.2.1 _) ?_
        refine ok_if_eq (tgt := 226) dX3_look_143 (by decide) (fun _ => ?_) (fun c9 => absurd (if_neg c3) c9)
        refine ok_aload_n dX3_look_226 rfl rfl ?_
        refine ok_aload_n dX3_look_227 rfl rfl ?_
        refine ok_getR dX3_look_228 f_X3_9 (by first | exact is_lit hv (by decide) rfl | exact is_sq hv hq | exact is_row hv hq | exact is_pn hv hq (by assumption) | assumption) rfl (by first | exact rf hv rfl | exact rf_row hv hq | assumption) ?_
        refine ok_aload_n dX3_look_231 rfl rfl ?_
        refine ok_getI dX3_look_232 f_X3_22 (by first | exact is_lit hv (by decide) rfl | exact is_sq hv hq | exact is_row hv hq | exact is_pn hv hq (by assumption) | assumption) rfl ?_
        rw [g3]
        refine ok_baload dX3_look_235 (is_lit gv (by decide) rfl) (vp_in_nI (by omega) (by decide)) ?_
        rw [nI_clamp (by omega), b9]
        refine ok_callS (M' := mX3_signOf) (b' := (0, 0)) (As := [_]) dX3_look_236 iX3_signOf w_567 rfl (Nat.le_of_ble_eq_true rfl) ⟨Nat.le_of_ble_eq_true rfl, Nat.le_of_ble_eq_true rfl⟩ (Nat.le_of_ble_eq_true rfl) rfl rfl ?_
        refine sp_X3_signOf (B0.2.2.1 _) ?_
        refine ok_putI dX3_look_239 f_X3_19 (by first | exact is_lit hv (by decide) rfl | exact is_sq hv hq | exact is_row hv hq | exact is_pn hv hq (by assumption) | assumption) rfl rfl rfl rfl ?_
        refine ok_aload_n dX3_look_242 rfl rfl ?_
        refine ok_dup dX3_look_243 rfl ?_
        refine ok_getI dX3_look_244 f_X3_25 (by first | exact is_lit hv (by decide) rfl | exact is_sq hv hq | exact is_row hv hq | exact is_pn hv hq (by assumption) | assumption) rfl ?_
        refine ok_iconst (v := 1) dX3_look_247 (by decide) ?_
        refine ok_iadd dX3_look_248 ?_
        refine ok_putI dX3_look_249 f_X3_25 (by first | exact is_lit hv (by decide) rfl | exact is_sq hv hq | exact is_row hv hq | exact is_pn hv hq (by assumption) | assumption) rfl rfl rfl rfl ?_
        refine ok_return dX3_look_252 rfl ?_
        have t1 : tT T z k = sgn (T (tF T z k)) := (if_neg c1).trans ((if_neg c2).trans (if_neg c3))
        have s3 := sgn_3 (T (tF T z k))
        have tb : tB T z k = tF T z k + 1 := by rw [tB, if_neg (by omega), if_neg (by omega), if_neg (by omega)]
        refine K _ ((F1.u (by decide)).u (by decide)) ⟨(at_un (by decide)).trans (at_uI.trans (by rw [t1])), (at_un (by decide)).trans ((at_un (by decide)).trans g3), at_uI.trans (by rw [at_un (by decide), at_uI, nI_1, tb]), fun c => absurd (t1.symm.trans c) (by omega)⟩
theorem sp_X3_look {g : GG} {h : Hp} {Post : Option Value → Hp → Prop} (hv : Inv h) {T : Nat → Nat} {z : Nat} (B : BT h T z) {k : Nat} (hk : k ≤ z) (e4 : hI h 38 4 = nI k) (K : ∀ h', FT h h' → Tok h' T z k → Post none h') : Sp g mX3_look [.ref 38] h Post := by
  show Go g mX3_look 0 [_] [] _ _ _
  refine ok_aload_n dX3_look_0 rfl rfl ?_
  refine ok_aload_n dX3_look_1 rfl rfl ?_
  refine ok_getI dX3_look_2 f_X3_25 (by first | exact is_lit hv (by decide) rfl | exact is_sq hv hq | exact is_row hv hq | exact is_pn hv hq (by assumption) | assumption) rfl ?_
  rw [e4]
  refine ok_putI dX3_look_5 f_X3_22 (by first | exact is_lit hv (by decide) rfl | exact is_sq hv hq | exact is_row hv hq | exact is_pn hv hq (by assumption) | assumption) rfl rfl rfl rfl ?_
  have R := rne_run isS T z k
  exact lp_X3_look_8 hv B R (R.le hk) (fun h' F' q3 => lp_X3_look_46 hv B hk K h' F' q3) _ _ _ (Nat.add_sub_cancel' R.1) (Nat.le_refl _) (FT.rf.u (by decide)) at_uI
