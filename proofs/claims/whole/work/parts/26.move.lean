/-! ===== squares: become, join, walk, goAway, swapPlaces, hear ===== -/
/-- of a row of n people the first m are held -/
def RepB (h : Hp) (q n m : Nat) (r : Nat → Int32) : Prop := n ≤ 10 ∧ r 0 = nI n ∧ hI h q 6 = nI n ∧ (∀ k, k < 6 → hI h q k = r (k + 1)) ∧ ∀ p f, p < m → f < 7 → pf h q p f = ro r p f
theorem FrI.setP {q : Nat} {h h' : Hp} (F : FrI q h h') {a : Nat} {v : Nat → Int32} (h1 : q ≤ a) (h2 : a < q + 12) : FrI q h (setP h' a v) := ⟨F.1, fun x hx => (funext fun _ => if_neg (fun e => by omega)).trans (F.2 x hx)⟩
theorem repB_next {h : Hp} {q n i : Nat} {r v : Nat → Int32} (hv : Inv h) (hq : Sqr q) (hi : i < n) (R : RepB h q n i r) (hvv : ∀ f, f < 7 → v f = ro r i f) : RepB (setP h (pn h q i) v) q n (i + 1) r := by
  obtain ⟨h1, h2, h3, h4, h5⟩ := R
  have hin := pn_in hv hq (j := i) (by omega)
  refine ⟨h1, h2, ?_, fun k hk => ?_, fun p f hp hf => ?_⟩
  · show (if q = pn h q i ∧ 6 < 7 then _ else h.1 q 6) = _
    rw [if_neg (by omega)]; exact h3
  · show (if q = pn h q i ∧ k < 7 then _ else h.1 q k) = _
    rw [if_neg (by omega)]; exact h4 k hk
  · show (if pn h q p = pn h q i ∧ f < 7 then v f else h.1 (pn h q p) f) = _
    by_cases hpi : p = i
    · subst hpi
      rw [if_pos ⟨rfl, hf⟩]; exact hvv f hf
    · rw [if_neg (fun e => hpi (pn_inj hv hq (by omega) (by omega) e.1))]
      exact h5 p f (by omega) hf
theorem lp_X2_become_58 {g : GG} {Post : Option Value → Hp → Prop} {q : Nat} (hq : Sqr q) {o : Nat} (ho : Sqr o) (hne : o ≠ q) {n : Nat} {r : Nat → Int32} {h0 : Hp} (hv0 : Inv h0) (R0 : Rep h0 o n r) (K : ∀ h', FrI q h0 h' → Rep h' q n r → Post none h') : ∀ (k i : Nat) (h1 : Hp), i + k = n → FrI q h0 h1 → RepB h1 q n i r → Go g mX2_become 58 [some (.ref q), some (.ref o), some (.int (nI i))] [] h1 (0, 0) Post := by
  intro k
  induction k with
  | zero =>
    intro i h1 hik F R
    obtain rfl : i = n := by omega
    have hv : Inv h1 := hv0.of F.1
    have h6 := R.2.2.1
    have hn := R.1
    refine ok_iload_n dX2_become_58 rfl rfl ?_
    refine ok_aload_n dX2_become_59 rfl rfl ?_
    refine ok_getI dX2_become_60 f_X2_31 (by first | exact is_lit hv (by decide) rfl | exact is_sq hv hq | exact is_row hv hq | exact is_pn hv hq (by assumption) | assumption) rfl ?_
    rw [h6]
    refine ok_icmp_ge (tgt := 87) dX2_become_63 (by decide) (fun _ => ?_) (fun c9 => absurd (nI_le (Nat.le_refl _) (by omega)) c9)
    refine ok_return dX2_become_87 rfl ?_
    exact K h1 F R
  | succ k ih =>
    intro i h1 hik F R
    have hi : i < n := by omega
    have hv : Inv h1 := hv0.of F.1
    have h6 := R.2.2.1
    have hn := R.1
    have hi10 : i < 10 := by omega
    have hin := pn_in hv hq hi10
    have hino := pn_in hv ho hi10
    have hd := sq_apart hq ho hne
    have Ro := Rep.other R0 hv0 ho F hd
    refine ok_iload_n dX2_become_58 rfl rfl ?_
    refine ok_aload_n dX2_become_59 rfl rfl ?_
    refine ok_getI dX2_become_60 f_X2_31 (by first | exact is_lit hv (by decide) rfl | exact is_sq hv hq | exact is_row hv hq | exact is_pn hv hq (by assumption) | assumption) rfl ?_
    rw [h6]
    refine ok_icmp_ge (tgt := 87) dX2_become_63 (by decide) (fun c9 => absurd c9 (nI_ge hi (by omega))) (fun _ => ?_)
    refine ok_aload_n dX2_become_66 rfl rfl ?_
    refine ok_getR dX2_become_67 f_X2_36 (is_sq hv hq) rfl (rf_row hv hq) ?_
    refine ok_iload_n dX2_become_70 rfl rfl ?_
    refine ok_aaloadP dX2_become_71 (is_row hv hq) (by first | decide | exact vp_in_nI (by assumption) (by decide) | exact vp_in_nI (by omega) (by decide) | assumption) (rf_nI hv hq hi10) ?_
    refine ok_aload_n dX2_become_72 rfl rfl ?_
    refine ok_getR dX2_become_73 f_X2_36 (is_sq hv ho) rfl (rf_row hv ho) ?_
    refine ok_iload_n dX2_become_76 rfl rfl ?_
    refine ok_aaloadP dX2_become_77 (is_row hv ho) (by first | decide | exact vp_in_nI (by assumption) (by decide) | exact vp_in_nI (by omega) (by decide) | assumption) (rf_nI hv ho hi10) ?_
    refine ok_callV (M' := mX0_resemble) (b' := (0, 0)) (As := [_]) (cx := 0) dX2_become_78 iX0_resemble w_409 (by decide) rfl (is_pn hv hq hi10) rfl (Nat.le_of_ble_eq_true rfl) ⟨Nat.le_of_ble_eq_true rfl, Nat.le_of_ble_eq_true rfl⟩ (Nat.le_of_ble_eq_true rfl) rfl rfl ?_
    refine sp_X0_resemble (is_pn hv hq hi10) (is_pn hv ho hi10) (by omega) ?_
    refine ok_iinc (v := _ + 1) (lo' := [_, _, _]) dX2_become_81 rfl rfl (Nat.le_of_ble_eq_true rfl) rfl rfl ?_
    refine ok_goto (tgt := 58) dX2_become_84 (by decide) ?_
    rw [nI_1]
    exact ih (i + 1) _ (by omega) (F.setP (by omega) (by omega)) (repB_next hv hq hi R (fun f hf => Ro.2.2.2.2 i f hi hf))
theorem sp_X2_become {g : GG} {h : Hp} {Post : Option Value → Hp → Prop} (hv : Inv h) {q : Nat} (hq : Sqr q) {o : Nat} (ho : Sqr o) (hne : o ≠ q) {n : Nat} {r : Nat → Int32} (R : Rep h o n r) (hb : B01 (r 3)) (K : ∀ h', FrI q h h' → Rep h' q n r → Post none h') : Sp g mX2_become [.ref q, .ref o] h Post := by
  show Go g mX2_become 0 [_, _, _] [] _ _ _
  have hb2 : B01 (hI h o 2) := by rw [R.2.2.2.1 2 (by decide)]; exact hb
  have rd : ∀ (h2 : Hp) (k j : Nat) (v : Int32), hI (uI h2 q k v) o j = hI h2 o j := fun h2 k j v => if_neg (by omega)
  refine ok_aload_n dX2_become_0 rfl rfl ?_
  refine ok_aload_n dX2_become_1 rfl rfl ?_
  refine ok_getI dX2_become_2 f_X2_9 (is_sq hv ho) rfl ?_
  refine ok_putI dX2_become_5 f_X2_9 (is_sq hv hq) rfl rfl rfl rfl ?_
  refine ok_aload_n dX2_become_8 rfl rfl ?_
  refine ok_aload_n dX2_become_9 rfl rfl ?_
  refine ok_getI dX2_become_10 f_X2_15 (is_sq hv ho) rfl ?_
  rw [rd]
  refine ok_putI dX2_become_13 f_X2_15 (is_sq hv hq) rfl rfl rfl rfl ?_
  refine ok_aload_n dX2_become_16 rfl rfl ?_
  refine ok_aload_n dX2_become_17 rfl rfl ?_
  refine ok_getI dX2_become_18 f_X2_18 (is_sq hv ho) rfl ?_
  rw [rd, rd]
  refine ok_putI dX2_become_21 f_X2_18 (is_sq hv hq) rfl rfl (nar_b hb2) (fit_b hb2) ?_
  refine ok_aload_n dX2_become_24 rfl rfl ?_
  refine ok_aload_n dX2_become_25 rfl rfl ?_
  refine ok_getI dX2_become_26 f_X2_22 (is_sq hv ho) rfl ?_
  rw [rd, rd, rd]
  refine ok_putI dX2_become_29 f_X2_22 (is_sq hv hq) rfl rfl rfl rfl ?_
  refine ok_aload_n dX2_become_32 rfl rfl ?_
  refine ok_aload_n dX2_become_33 rfl rfl ?_
  refine ok_getI dX2_become_34 f_X2_25 (is_sq hv ho) rfl ?_
  rw [rd, rd, rd, rd]
  refine ok_putI dX2_become_37 f_X2_25 (is_sq hv hq) rfl rfl rfl rfl ?_
  refine ok_aload_n dX2_become_40 rfl rfl ?_
  refine ok_aload_n dX2_become_41 rfl rfl ?_
  refine ok_getI dX2_become_42 f_X2_28 (is_sq hv ho) rfl ?_
  rw [rd, rd, rd, rd, rd]
  refine ok_putI dX2_become_45 f_X2_28 (is_sq hv hq) rfl rfl rfl rfl ?_
  refine ok_aload_n dX2_become_48 rfl rfl ?_
  refine ok_aload_n dX2_become_49 rfl rfl ?_
  refine ok_getI dX2_become_50 f_X2_31 (is_sq hv ho) rfl ?_
  rw [rd, rd, rd, rd, rd, rd]
  refine ok_putI dX2_become_53 f_X2_31 (is_sq hv hq) rfl rfl rfl rfl ?_
  refine ok_iconst (v := 0) dX2_become_56 (by decide) ?_
  refine ok_istore_n (lo' := [_, _, _]) dX2_become_57 rfl (Nat.le_of_ble_eq_true rfl) rfl rfl ?_
  have e1 := setP_of h q (hI h o)
  rw [e1]
  refine lp_X2_become_58 hq ho hne hv R K n 0 _ (by omega) (FrI.rf.setP (by omega) (by omega)) ⟨R.1, R.2.1, ?_, fun k hk => ?_, fun p f hp => absurd hp (by omega)⟩
  · exact (if_pos ⟨rfl, by decide⟩).trans R.2.2.1
  · exact (if_pos ⟨rfl, by omega⟩).trans (R.2.2.2.1 k hk)
theorem sp_X2_hear {g : GG} {h : Hp} {Post : Option Value → Hp → Prop} (hv : Inv h) {q : Nat} (hq : Sqr q) {w : Int32} (hb : B01 w) (l : Int32) (K : Post none (uI (uI h q 2 w) q 3 (if w = 0 then 0 else l))) : Sp g mX2_hear [.ref q, .int w, .int l] h Post := by
  show Go g mX2_hear 0 [_, _, _] [] _ _ _
  refine ok_aload_n dX2_hear_0 rfl rfl ?_
  refine ok_iload_n dX2_hear_1 rfl rfl ?_
  refine ok_putI dX2_hear_2 f_X2_18 (by first | exact is_lit hv (by decide) rfl | exact is_sq hv hq | exact is_row hv hq | exact is_pn hv hq (by assumption) | assumption) rfl rfl (nar_b hb) (fit_b hb) ?_
  refine ok_aload_n dX2_hear_5 rfl rfl ?_
  refine ok_iload_n dX2_hear_6 rfl rfl ?_
  refine ok_if_eq (tgt := 14) dX2_hear_7 (by decide) (fun c_7 => ?_) (fun c_7 => ?_)
  · refine ok_iconst (v := 0) dX2_hear_14 (by decide) ?_
    refine ok_putI dX2_hear_15 f_X2_22 (by first | exact is_lit hv (by decide) rfl | exact is_sq hv hq | exact is_row hv hq | exact is_pn hv hq (by assumption) | assumption) rfl rfl rfl rfl ?_
    refine ok_return dX2_hear_18 rfl ?_
    first | (rw [if_pos c_7] at K; exact K) | (rw [if_neg c_7] at K; exact K)
  · refine ok_iload_n dX2_hear_10 rfl rfl ?_
    refine ok_goto (tgt := 15) dX2_hear_11 (by decide) ?_
    refine ok_putI dX2_hear_15 f_X2_22 (by first | exact is_lit hv (by decide) rfl | exact is_sq hv hq | exact is_row hv hq | exact is_pn hv hq (by assumption) | assumption) rfl rfl rfl rfl ?_
    refine ok_return dX2_hear_18 rfl ?_
    first | (rw [if_pos c_7] at K; exact K) | (rw [if_neg c_7] at K; exact K)
theorem sp_X2_join {g : GG} {h : Hp} {Post : Option Value → Hp → Prop} (hv : Inv h) {q : Nat} (hq : Sqr q) {n : Nat} (hn : n < 10) (h6 : hI h q 6 = nI n) (k : Int32) (K : Post (some (.int (nI n))) (uI (setP h (pn h q n) (arrV0 k)) q 6 (nI (n + 1)))) : Sp g mX2_join [.ref q, .int k] h Post := by
  show Go g mX2_join 0 [_, _, _] [] _ _ _
  have hin := pn_in hv hq hn
  refine ok_aload_n dX2_join_0 rfl rfl ?_
  refine ok_getI dX2_join_1 f_X2_31 (by first | exact is_lit hv (by decide) rfl | exact is_sq hv hq | exact is_row hv hq | exact is_pn hv hq (by assumption) | assumption) rfl ?_
  rw [h6]
  refine ok_istore_n (lo' := [_, _, _]) dX2_join_4 rfl (Nat.le_of_ble_eq_true rfl) rfl rfl ?_
  refine ok_aload_n dX2_join_5 rfl rfl ?_
  refine ok_getR dX2_join_6 f_X2_36 (by first | exact is_lit hv (by decide) rfl | exact is_sq hv hq | exact is_row hv hq | exact is_pn hv hq (by assumption) | assumption) rfl (by first | exact rf hv rfl | exact rf_row hv hq | assumption) ?_
  refine ok_iload_n dX2_join_9 rfl rfl ?_
  refine ok_aaloadP dX2_join_10 (by first | exact is_lit hv (by decide) rfl | exact is_sq hv hq | exact is_row hv hq | exact is_pn hv hq (by assumption) | assumption) (by first | decide | exact vp_in_nI (by assumption) (by decide) | exact vp_in_nI (by omega) (by decide) | assumption) (rf_nI hv hq hn) ?_
  refine ok_iload_n dX2_join_11 rfl rfl ?_
  refine ok_callV (M' := mX0_arrive) (b' := (0, 0)) (As := [_]) (cx := 0) dX2_join_12 iX0_arrive w_263 (by decide) rfl (by first | exact is_lit hv (by decide) rfl | exact is_sq hv hq | exact is_row hv hq | exact is_pn hv hq (by assumption) | assumption) rfl (Nat.le_of_ble_eq_true rfl) ⟨Nat.le_of_ble_eq_true rfl, Nat.le_of_ble_eq_true rfl⟩ (Nat.le_of_ble_eq_true rfl) rfl rfl ?_
  refine sp_X0_arrive (is_pn hv hq hn) _ ?_
  refine ok_aload_n dX2_join_15 rfl rfl ?_
  refine ok_dup dX2_join_16 rfl ?_
  refine ok_getI dX2_join_17 f_X2_31 (by first | exact is_lit hv (by decide) rfl | exact is_sq hv hq | exact is_row hv hq | exact is_pn hv hq (by assumption) | assumption) rfl ?_
  refine ok_iconst (v := 1) dX2_join_20 (by decide) ?_
  refine ok_iadd dX2_join_21 ?_
  refine ok_putI dX2_join_22 f_X2_31 (by first | exact is_lit hv (by decide) rfl | exact is_sq hv hq | exact is_row hv hq | exact is_pn hv hq (by assumption) | assumption) rfl rfl rfl rfl ?_
  refine ok_iload_n dX2_join_25 rfl rfl ?_
  refine ok_ireturn dX2_join_26 rfl rfl ?_
  have e6 : hI (setP h (pn h q n) (arrV0 k)) q 6 = nI n := (if_neg (by omega)).trans h6
  rw [e6, nI_1]
  exact K
/-! one goes from place f to place t -/
def mv (f t p : Nat) : Nat := if p = t then f else if f ≤ p ∧ p < t then p + 1 else if t < p ∧ p ≤ f then p - 1 else p
theorem mv_lt {f t p m : Nat} (hf : f < m) (ht : t < m) (hp : p < m) : mv f t p < m := by
  unfold mv
  split
  · exact hf
  · split
    · omega
    · split <;> omega
theorem mv_inj {f t i j : Nat} (e : mv f t i = mv f t j) : i = j := by
  unfold mv at e
  split at e <;> split at e <;> (try split at e) <;> (try split at e) <;> (try split at e) <;> (try split at e) <;> omega
def hmv (h : Hp) (q f t : Nat) : Hp := (h.1, h.2.1, fun a k => if a = q + 1 then h.2.2.1 a (mv f t k) else h.2.2.1 a k, h.2.2.2)
def hw1 (h : Hp) (q f i : Nat) : Hp := (h.1, h.2.1, fun a k => if a = q + 1 ∧ f ≤ k ∧ k < i then h.2.2.1 a (k + 1) else h.2.2.1 a k, h.2.2.2)
def hw2 (h : Hp) (q f i : Nat) : Hp := (h.1, h.2.1, fun a k => if a = q + 1 ∧ i < k ∧ k ≤ f then h.2.2.1 a (k - 1) else h.2.2.1 a k, h.2.2.2)
theorem hp_R {h : Hp} {R' : Nat → Nat → Option Nat} (e : ∀ a k, h.2.2.1 a k = R' a k) : h = (h.1, h.2.1, R', h.2.2.2) := by
  obtain ⟨a, b, c, d⟩ := h
  have : c = R' := funext fun a => funext fun k => e a k
  rw [this]
theorem hw1_0 (h : Hp) (q f : Nat) : hw1 h q f f = h := (hp_R fun a k => (if_neg (by omega)).symm).symm
theorem hw2_0 (h : Hp) (q f : Nat) : hw2 h q f f = h := (hp_R fun a k => (if_neg (by omega)).symm).symm
theorem hw1_s {h : Hp} {q f i x : Nat} (hfi : f ≤ i) (hx : h.2.2.1 (q + 1) (i + 1) = some x) : uR (hw1 h q f i) (q + 1) i (some x) = hw1 h q f (i + 1) := by
  refine Prod.ext rfl (Prod.ext rfl (Prod.ext (funext fun a => funext fun k => ?_) rfl))
  show (if a = q + 1 ∧ k = i then some x else if a = q + 1 ∧ f ≤ k ∧ k < i then h.2.2.1 a (k + 1) else h.2.2.1 a k) = if a = q + 1 ∧ f ≤ k ∧ k < i + 1 then h.2.2.1 a (k + 1) else h.2.2.1 a k
  by_cases ha : a = q + 1
  · subst ha
    by_cases hk : k = i
    · subst hk; rw [if_pos ⟨rfl, rfl⟩, if_pos ⟨rfl, hfi, by omega⟩, hx]
    · rw [if_neg (fun e => hk e.2)]
      by_cases hkk : f ≤ k ∧ k < i
      · rw [if_pos ⟨rfl, hkk⟩, if_pos ⟨rfl, hkk.1, by omega⟩]
      · rw [if_neg (fun e => hkk e.2), if_neg (by omega)]
  · rw [if_neg (fun e => ha e.1), if_neg (fun e => ha e.1), if_neg (fun e => ha e.1)]
theorem hw2_s {h : Hp} {q f i x : Nat} (hfi : i + 1 ≤ f) (hx : h.2.2.1 (q + 1) i = some x) : uR (hw2 h q f (i + 1)) (q + 1) (i + 1) (some x) = hw2 h q f i := by
  refine Prod.ext rfl (Prod.ext rfl (Prod.ext (funext fun a => funext fun k => ?_) rfl))
  show (if a = q + 1 ∧ k = i + 1 then some x else if a = q + 1 ∧ i + 1 < k ∧ k ≤ f then h.2.2.1 a (k - 1) else h.2.2.1 a k) = if a = q + 1 ∧ i < k ∧ k ≤ f then h.2.2.1 a (k - 1) else h.2.2.1 a k
  by_cases ha : a = q + 1
  · subst ha
    by_cases hk : k = i + 1
    · subst hk; rw [if_pos ⟨rfl, rfl⟩, if_pos ⟨rfl, by omega, hfi⟩, ← hx]; rfl
    · rw [if_neg (fun e => hk e.2)]
      by_cases hkk : i + 1 < k ∧ k ≤ f
      · rw [if_pos ⟨rfl, hkk⟩, if_pos ⟨rfl, by omega, hkk.2⟩]
      · rw [if_neg (fun e => hkk e.2), if_neg (by omega)]
  · rw [if_neg (fun e => ha e.1), if_neg (fun e => ha e.1), if_neg (fun e => ha e.1)]
theorem hmv_1 {h : Hp} {q f t x : Nat} (hft : f ≤ t) (hx : h.2.2.1 (q + 1) f = some x) : uR (hw1 h q f t) (q + 1) t (some x) = hmv h q f t := by
  refine Prod.ext rfl (Prod.ext rfl (Prod.ext (funext fun a => funext fun k => ?_) rfl))
  show (if a = q + 1 ∧ k = t then some x else if a = q + 1 ∧ f ≤ k ∧ k < t then h.2.2.1 a (k + 1) else h.2.2.1 a k) = if a = q + 1 then h.2.2.1 a (mv f t k) else h.2.2.1 a k
  by_cases ha : a = q + 1
  · subst ha
    rw [if_pos rfl, mv]
    by_cases hk : k = t
    · rw [if_pos ⟨rfl, hk⟩, if_pos hk, hx]
    · rw [if_neg (fun e => hk e.2), if_neg hk]
      by_cases hkk : f ≤ k ∧ k < t
      · rw [if_pos ⟨rfl, hkk⟩, if_pos hkk]
      · rw [if_neg (fun e => hkk e.2), if_neg hkk, if_neg (by omega)]
  · rw [if_neg (fun e => ha e.1), if_neg (fun e => ha e.1), if_neg ha]
theorem hmv_2 {h : Hp} {q f t x : Nat} (hft : t < f) (hx : h.2.2.1 (q + 1) f = some x) : uR (hw2 h q f t) (q + 1) t (some x) = hmv h q f t := by
  refine Prod.ext rfl (Prod.ext rfl (Prod.ext (funext fun a => funext fun k => ?_) rfl))
  show (if a = q + 1 ∧ k = t then some x else if a = q + 1 ∧ t < k ∧ k ≤ f then h.2.2.1 a (k - 1) else h.2.2.1 a k) = if a = q + 1 then h.2.2.1 a (mv f t k) else h.2.2.1 a k
  by_cases ha : a = q + 1
  · subst ha
    rw [if_pos rfl, mv]
    by_cases hk : k = t
    · rw [if_pos ⟨rfl, hk⟩, if_pos hk, hx]
    · rw [if_neg (fun e => hk e.2), if_neg hk]
      have hno : ¬ (f ≤ k ∧ k < t) := by omega
      by_cases hkk : t < k ∧ k ≤ f
      · rw [if_pos ⟨rfl, hkk⟩, if_neg hno, if_pos hkk]
      · rw [if_neg (fun e => hkk e.2), if_neg hno, if_neg hkk]
  · rw [if_neg (fun e => ha e.1), if_neg (fun e => ha e.1), if_neg ha]
theorem hw1_row {h : Hp} {q f i : Nat} (hv : Inv h) (hq : Sqr q) : hR (hw1 h q f i) q 7 = some (q + 1) := (if_neg (by omega)).trans (rf_row hv hq)
theorem hw2_row {h : Hp} {q f i : Nat} (hv : Inv h) (hq : Sqr q) : hR (hw2 h q f i) q 7 = some (q + 1) := (if_neg (by omega)).trans (rf_row hv hq)
theorem lp_X2_walk_41 {g : GG} {h : Hp} {Post : Option Value → Hp → Prop} (hv : Inv h) {q : Nat} (hq : Sqr q) {f t : Nat} (hf : f < 10) (ht : t < 10) (hft : t < f) (K : Post none (hmv h q f t)) (x3 : Nat) (hx3 : x3 = pn h q f) : ∀ (k i : Nat), t + k = i → i ≤ f → Go g mX2_walk 41 [some (.ref q), some (.int (nI f)), some (.int (nI t)), some (.ref x3), some (.int (nI i))] [] (hw2 h q f i) (0, 0) Post := by
  intro k
  induction k with
  | zero =>
    intro i hik hif
    obtain rfl : t = i := by omega
    subst hx3
    refine ok_iload dX2_walk_41 rfl ?_
    refine ok_iload_n dX2_walk_43 rfl rfl ?_
    refine ok_icmp_le (tgt := 69) dX2_walk_44 (by decide) (fun _ => ?_) (fun c9 => absurd (nI_le (Nat.le_refl _) (by omega)) c9)
    refine ok_aload_n dX2_walk_69 rfl rfl ?_
    refine ok_getR dX2_walk_70 f_X2_36 (show Is h q 2 0 from is_sq hv hq) rfl (hw2_row hv hq) ?_
    refine ok_iload_n dX2_walk_73 rfl rfl ?_
    refine ok_aload_n dX2_walk_74 rfl rfl ?_
    refine ok_aastoreP dX2_walk_75 (show Is h (q + 1) 9 10 from is_row hv hq) (show Is h (pn h q f) 0 0 from is_pn hv hq hf) (vp_in_nI ht (by decide)) ?_
    refine ok_return dX2_walk_76 rfl ?_
    rw [nI_clamp (by omega), hmv_2 hft (rf_pn hv hq hf)]
    exact K
  | succ k ih =>
    intro i hik hif
    obtain ⟨j, rfl⟩ : ∃ j, i = j + 1 := ⟨i - 1, by omega⟩
    have hj10 : j < 10 := by omega
    refine ok_iload dX2_walk_41 rfl ?_
    refine ok_iload_n dX2_walk_43 rfl rfl ?_
    refine ok_icmp_le (tgt := 69) dX2_walk_44 (by decide) (fun c9 => absurd c9 (nI_ge (by omega) (by omega))) (fun _ => ?_)
    refine ok_aload_n dX2_walk_47 rfl rfl ?_
    refine ok_getR dX2_walk_48 f_X2_36 (show Is h q 2 0 from is_sq hv hq) rfl (hw2_row hv hq) ?_
    refine ok_iload dX2_walk_51 rfl ?_
    refine ok_aload_n dX2_walk_53 rfl rfl ?_
    refine ok_getR dX2_walk_54 f_X2_36 (show Is h q 2 0 from is_sq hv hq) rfl (hw2_row hv hq) ?_
    refine ok_iload dX2_walk_57 rfl ?_
    refine ok_iconst (v := 1) dX2_walk_59 (by decide) ?_
    refine ok_isub dX2_walk_60 ?_
    rw [nI_pred]
    refine ok_aaloadP dX2_walk_61 (show Is h (q + 1) 9 10 from is_row hv hq) (vp_in_nI hj10 (by decide)) (show hR (hw2 h q f (j + 1)) (q + 1) (nI j).toNatClampNeg = some (pn h q j) by rw [nI_clamp (by omega)]; exact (if_neg (by omega)).trans (rf_pn hv hq hj10)) ?_
    refine ok_aastoreP dX2_walk_62 (show Is h (q + 1) 9 10 from is_row hv hq) (show Is h _ 0 0 from is_pn hv hq hj10) (vp_in_nI (by omega) (by decide)) ?_
    rw [nI_clamp (by omega), hw2_s (by omega) (rf_pn hv hq hj10)]
    refine ok_iinc (v := _ + (-1)) (lo' := [_, _, _, _, _]) dX2_walk_63 rfl rfl (Nat.le_of_ble_eq_true rfl) rfl rfl ?_
    refine ok_goto (tgt := 41) dX2_walk_66 (by decide) ?_
    rw [pk_m1]
    exact ih j (by omega) (by omega)
theorem lp_X2_walk_10 {g : GG} {h : Hp} {Post : Option Value → Hp → Prop} (hv : Inv h) {q : Nat} (hq : Sqr q) {f t : Nat} (hf : f < 10) (ht : t < 10) (hft : f ≤ t) (K : Post none (hmv h q f t)) (x3 : Nat) (hx3 : x3 = pn h q f) : ∀ (k i : Nat), i + k = t → f ≤ i → Go g mX2_walk 10 [some (.ref q), some (.int (nI f)), some (.int (nI t)), some (.ref x3), some (.int (nI i))] [] (hw1 h q f i) (0, 0) Post := by
  intro k
  induction k with
  | zero =>
    intro i hik hif
    obtain rfl : i = t := by omega
    subst hx3
    refine ok_iload dX2_walk_10 rfl ?_
    refine ok_iload_n dX2_walk_12 rfl rfl ?_
    refine ok_icmp_ge (tgt := 38) dX2_walk_13 (by decide) (fun _ => ?_) (fun c9 => absurd (nI_le (Nat.le_refl _) (by omega)) c9)
    refine ok_iload_n dX2_walk_38 rfl rfl ?_
    refine ok_istore (lo' := [_, _, _, _, _]) dX2_walk_39 (Nat.le_of_ble_eq_true rfl) rfl rfl ?_
    refine ok_iload dX2_walk_41 rfl ?_
    refine ok_iload_n dX2_walk_43 rfl rfl ?_
    refine ok_icmp_le (tgt := 69) dX2_walk_44 (by decide) (fun _ => ?_) (fun c9 => absurd (nI_le hft (by omega)) c9)
    refine ok_aload_n dX2_walk_69 rfl rfl ?_
    refine ok_getR dX2_walk_70 f_X2_36 (show Is h q 2 0 from is_sq hv hq) rfl (hw1_row hv hq) ?_
    refine ok_iload_n dX2_walk_73 rfl rfl ?_
    refine ok_aload_n dX2_walk_74 rfl rfl ?_
    refine ok_aastoreP dX2_walk_75 (show Is h (q + 1) 9 10 from is_row hv hq) (show Is h (pn h q f) 0 0 from is_pn hv hq hf) (vp_in_nI ht (by decide)) ?_
    refine ok_return dX2_walk_76 rfl ?_
    rw [nI_clamp (by omega), hmv_1 hft (rf_pn hv hq hf)]
    exact K
  | succ k ih =>
    intro i hik hif
    have hj10 : i + 1 < 10 := by omega
    refine ok_iload dX2_walk_10 rfl ?_
    refine ok_iload_n dX2_walk_12 rfl rfl ?_
    refine ok_icmp_ge (tgt := 38) dX2_walk_13 (by decide) (fun c9 => absurd c9 (nI_ge (by omega) (by omega))) (fun _ => ?_)
    refine ok_aload_n dX2_walk_16 rfl rfl ?_
    refine ok_getR dX2_walk_17 f_X2_36 (show Is h q 2 0 from is_sq hv hq) rfl (hw1_row hv hq) ?_
    refine ok_iload dX2_walk_20 rfl ?_
    refine ok_aload_n dX2_walk_22 rfl rfl ?_
    refine ok_getR dX2_walk_23 f_X2_36 (show Is h q 2 0 from is_sq hv hq) rfl (hw1_row hv hq) ?_
    refine ok_iload dX2_walk_26 rfl ?_
    refine ok_iconst (v := 1) dX2_walk_28 (by decide) ?_
    refine ok_iadd dX2_walk_29 ?_
    rw [nI_1]
    refine ok_aaloadP dX2_walk_30 (show Is h (q + 1) 9 10 from is_row hv hq) (vp_in_nI hj10 (by decide)) (show hR (hw1 h q f i) (q + 1) (nI (i + 1)).toNatClampNeg = some (pn h q (i + 1)) by rw [nI_clamp (by omega)]; exact (if_neg (by omega)).trans (rf_pn hv hq hj10)) ?_
    refine ok_aastoreP dX2_walk_31 (show Is h (q + 1) 9 10 from is_row hv hq) (show Is h _ 0 0 from is_pn hv hq hj10) (vp_in_nI (by omega) (by decide)) ?_
    rw [nI_clamp (by omega), hw1_s (by omega) (rf_pn hv hq hj10)]
    refine ok_iinc (v := _ + 1) (lo' := [_, _, _, _, _]) dX2_walk_32 rfl rfl (Nat.le_of_ble_eq_true rfl) rfl rfl ?_
    refine ok_goto (tgt := 10) dX2_walk_35 (by decide) ?_
    rw [nI_1]
    exact ih (i + 1) (by omega) (by omega)
theorem sp_X2_walk {g : GG} {h : Hp} {Post : Option Value → Hp → Prop} (hv : Inv h) {q : Nat} (hq : Sqr q) {f t : Nat} (hf : f < 10) (ht : t < 10) (K : Post none (hmv h q f t)) : Sp g mX2_walk [.ref q, .int (nI f), .int (nI t)] h Post := by
  show Go g mX2_walk 0 [_, _, _, _, _] [] _ _ _
  refine ok_aload_n dX2_walk_0 rfl rfl ?_
  refine ok_getR dX2_walk_1 f_X2_36 (by first | exact is_lit hv (by decide) rfl | exact is_sq hv hq | exact is_row hv hq | exact is_pn hv hq (by assumption) | assumption) rfl (by first | exact rf hv rfl | exact rf_row hv hq | assumption) ?_
  refine ok_iload_n dX2_walk_4 rfl rfl ?_
  refine ok_aaloadP dX2_walk_5 (by first | exact is_lit hv (by decide) rfl | exact is_sq hv hq | exact is_row hv hq | exact is_pn hv hq (by assumption) | assumption) (by first | decide | exact vp_in_nI (by assumption) (by decide) | exact vp_in_nI (by omega) (by decide) | assumption) (rf_nI hv hq hf) ?_
  refine ok_astore_n (lo' := [_, _, _, _, _]) dX2_walk_6 rfl (Nat.le_of_ble_eq_true rfl) rfl rfl ?_
  refine ok_iload_n dX2_walk_7 rfl rfl ?_
  refine ok_istore (lo' := [_, _, _, _, _]) dX2_walk_8 (Nat.le_of_ble_eq_true rfl) rfl rfl ?_
  by_cases hft : f ≤ t
  · have e := lp_X2_walk_10 (g := g) hv hq hf ht hft K _ rfl (t - f) f (by omega) (Nat.le_refl _)
    rw [hw1_0] at e
    exact e
  · have e := lp_X2_walk_41 (g := g) hv hq hf ht (by omega) K _ rfl (f - t) f (by omega) (Nat.le_refl _)
    rw [hw2_0] at e
    refine ok_iload dX2_walk_10 rfl ?_
    refine ok_iload_n dX2_walk_12 rfl rfl ?_
    refine ok_icmp_ge (tgt := 38) dX2_walk_13 (by decide) (fun _ => ?_) (fun c9 => absurd (nI_le (by omega) (by omega)) c9)
    refine ok_iload_n dX2_walk_38 rfl rfl ?_
    refine ok_istore (lo' := [_, _, _, _, _]) dX2_walk_39 (Nat.le_of_ble_eq_true rfl) rfl rfl ?_
    exact e
/-! places exchanged -/
def hpm (h : Hp) (q : Nat) (π : Nat → Nat) : Hp := (h.1, h.2.1, fun a k => if a = q + 1 then h.2.2.1 a (π k) else h.2.2.1 a k, h.2.2.2)
def sw (a b k : Nat) : Nat := if k = a then b else if k = b then a else k
theorem sw_lt {a b k m : Nat} (ha : a < m) (hb : b < m) (hk : k < m) : sw a b k < m := by unfold sw; split; exact hb; split <;> assumption
theorem sw_inj {a b i j : Nat} (e : sw a b i = sw a b j) : i = j := by
  unfold sw at e
  split at e <;> split at e <;> (try split at e) <;> (try split at e) <;> omega
theorem rfF_row {q k : Nat} (hq : Sqr q) : rfF (q + 1) k = none := by
  rcases hq with rfl | rfl | rfl <;> rfl
theorem inv_pm {h : Hp} {q : Nat} {π : Nat → Nat} (hv : Inv h) (hq : Sqr q) (h1 : ∀ j, j < 10 → π j < 10) (h2 : ∀ i j, i < 10 → j < 10 → π i = π j → i = j) : Inv (hpm h q π) := by
  have key : ∀ q2, Sqr q2 → SqR (hpm h q π).2.2.1 q2 := by
    intro q2 hq2
    have old := SqR.of hv hq2
    by_cases e : q2 = q
    · subst e
      refine ⟨fun j hj => ?_, fun i j hi hj e2 => ?_⟩
      · obtain ⟨r, a1, a2⟩ := old.1 (π j) (h1 j hj)
        exact ⟨r, (if_pos rfl).trans a1, a2⟩
      · have e3 : h.2.2.1 (q2 + 1) (π i) = h.2.2.1 (q2 + 1) (π j) := by
          have a1 : (hpm h q2 π).2.2.1 (q2 + 1) i = h.2.2.1 (q2 + 1) (π i) := if_pos rfl
          have a2 : (hpm h q2 π).2.2.1 (q2 + 1) j = h.2.2.1 (q2 + 1) (π j) := if_pos rfl
          rw [← a1, ← a2]; exact e2
        exact h2 i j hi hj (old.2 _ _ (h1 i hi) (h1 j hj) e3)
    · have ne : q2 + 1 ≠ q + 1 := by omega
      have er : ∀ j, (hpm h q π).2.2.1 (q2 + 1) j = h.2.2.1 (q2 + 1) j := fun j => if_neg ne
      refine ⟨fun j hj => ?_, fun i j hi hj e2 => ?_⟩
      · obtain ⟨r, a1, a2⟩ := old.1 j hj
        exact ⟨r, (er j).trans a1, a2⟩
      · exact old.2 i j hi hj (by rw [er, er] at e2; exact e2)
  refine ⟨hv.1, hv.2.1, fun a k r hr => ?_, key 2 (Or.inl rfl), key 14 (Or.inr (Or.inl rfl)), key 26 (Or.inr (Or.inr rfl))⟩
  have ne : a ≠ q + 1 := fun e => by rw [e, rfF_row hq] at hr; cases hr
  exact (if_neg ne).trans (hv.2.2.1 a k r hr)
theorem pn_pm {h : Hp} {q : Nat} {π : Nat → Nat} {j : Nat} : pn (hpm h q π) q j = pn h q (π j) := by
  unfold pn
  rw [show hR (hpm h q π) (q + 1) j = hR h (q + 1) (π j) from if_pos rfl]
def w_pm (r : Nat → Int32) (π : Nat → Nat) : Nat → Int32 := mkr r (fun p f => ro r (π p) f)
def w_set (r : Nat → Int32) (k : Nat) (v : Int32) : Nat → Int32 := fun j => if j = k then v else r j
def w_join (r : Nat → Int32) (n : Nat) (v : Nat → Int32) : Nat → Int32 := fun k => if k = 0 then nI (n + 1) else if 7 + 7 * n ≤ k ∧ k < 14 + 7 * n then v (k - (7 + 7 * n)) else r k
theorem ro_set {r : Nat → Int32} {k : Nat} {v : Int32} {p f : Nat} (hk : k < 7) : ro (w_set r k v) p f = ro r p f := if_neg (by omega)
theorem rep_pm {h : Hp} {q n : Nat} {r : Nat → Int32} {π : Nat → Nat} (R : Rep h q n r) (hπ : ∀ p, p < n → π p < n) : Rep (hpm h q π) q n (w_pm r π) := by
  obtain ⟨h1, h2, h3, h4, h5⟩ := R
  refine ⟨h1, by rw [w_pm, mk_s (by decide)]; exact h2, h3, fun k hk => by rw [w_pm, mk_s (by omega)]; exact h4 k hk, fun p f hp hf => ?_⟩
  rw [w_pm, ro_mk hf]
  show h.1 (pn (hpm h q π) q p) f = _
  rw [pn_pm]
  exact h5 _ f (hπ p hp) hf
theorem rep_uS {h : Hp} {q n k : Nat} {r : Nat → Int32} {v : Int32} (hv : Inv h) (hq : Sqr q) (hk : k < 6) (R : Rep h q n r) : Rep (uI h q k v) q n (w_set r (k + 1) v) := by
  obtain ⟨h1, h2, h3, h4, h5⟩ := R
  refine ⟨h1, (if_neg (by omega)).trans h2, (if_neg (by omega)).trans h3, fun j hj => ?_, fun p f hp hf => ?_⟩
  · show (if q = q ∧ j = k then v else h.1 q j) = if j + 1 = k + 1 then v else r (j + 1)
    by_cases e : j = k
    · rw [if_pos ⟨rfl, e⟩, if_pos (by omega)]
    · rw [if_neg (fun z => e z.2), if_neg (by omega)]; exact h4 j hj
  · have hin := pn_in hv hq (j := p) (by omega)
    rw [ro_set (by omega)]
    show (if pn h q p = q ∧ f = k then v else h.1 (pn h q p) f) = _
    exact (if_neg (by omega)).trans (h5 p f hp hf)
theorem rep_uP {h : Hp} {q n p f : Nat} {r : Nat → Int32} {v : Int32} (hv : Inv h) (hq : Sqr q) (hp : p < n) (hf : f < 7) (R : Rep h q n r) : Rep (uI h (pn h q p) f v) q n (w_set r (7 + 7 * p + f) v) := by
  obtain ⟨h1, h2, h3, h4, h5⟩ := R
  have hin := pn_in hv hq (j := p) (by omega)
  refine ⟨h1, (if_neg (by omega)).trans h2, (if_neg (by omega)).trans h3, fun j hj => ?_, fun p' f' hp' hf' => ?_⟩
  · exact (if_neg (by omega)).trans ((h4 j hj).trans (if_neg (by omega)).symm)
  · show (if pn h q p' = pn h q p ∧ f' = f then v else h.1 (pn h q p') f') = if 7 + 7 * p' + f' = 7 + 7 * p + f then v else r (7 + 7 * p' + f')
    by_cases e : p' = p ∧ f' = f
    · rw [if_pos ⟨by rw [e.1], e.2⟩, if_pos (by omega)]
    · rw [if_neg (fun z => e ⟨pn_inj hv hq (by omega) (by omega) z.1, z.2⟩), if_neg (by omega)]
      exact h5 p' f' hp' hf'
theorem rep_join {h : Hp} {q n : Nat} {r v : Nat → Int32} (hv : Inv h) (hq : Sqr q) (hn : n < 10) (R : Rep h q n r) : Rep (uI (setP h (pn h q n) v) q 6 (nI (n + 1))) q (n + 1) (w_join r n v) := by
  obtain ⟨h1, h2, h3, h4, h5⟩ := R
  have hin := pn_in hv hq (j := n) hn
  refine ⟨by omega, if_pos rfl, if_pos ⟨rfl, rfl⟩, fun j hj => ?_, fun p f hp hf => ?_⟩
  · refine (if_neg (by omega)).trans ((if_neg (by omega)).trans ((h4 j hj).trans ?_))
    rw [w_join, if_neg (by omega), if_neg (by omega)]
  · have hpin := pn_in hv hq (j := p) (by omega)
    show (if pn h q p = q ∧ f = 6 then _ else if pn h q p = pn h q n ∧ f < 7 then v f else h.1 (pn h q p) f) = _
    have e2 : ro (w_join r n v) p f = if 7 + 7 * n ≤ 7 + 7 * p + f ∧ 7 + 7 * p + f < 14 + 7 * n then v (7 + 7 * p + f - (7 + 7 * n)) else r (7 + 7 * p + f) := if_neg (by omega)
    rw [if_neg (by omega), e2]
    by_cases e : p = n
    · subst e
      rw [if_pos ⟨rfl, hf⟩, if_pos (by omega), show 7 + 7 * p + f - (7 + 7 * p) = f by omega]
    · rw [if_neg (fun z => e (pn_inj hv hq (by omega) (by omega) z.1)), if_neg (by omega)]
      exact h5 p f (by omega) hf
theorem rep_drop {h : Hp} {q n : Nat} {r : Nat → Int32} (hv : Inv h) (hq : Sqr q) (R : Rep h q (n + 1) r) : Rep (uI h q 6 (nI n)) q n (w_set r 0 (nI n)) := by
  obtain ⟨h1, h2, h3, h4, h5⟩ := R
  refine ⟨by omega, if_pos rfl, if_pos ⟨rfl, rfl⟩, fun j hj => ?_, fun p f hp hf => ?_⟩
  · exact (if_neg (by omega)).trans ((h4 j hj).trans (if_neg (by omega)).symm)
  · have hpin := pn_in hv hq (j := p) (by omega)
    rw [ro_set (by decide)]
    show (if pn h q p = q ∧ f = 6 then nI n else h.1 (pn h q p) f) = _
    exact (if_neg (by omega)).trans (h5 p f (by omega) hf)
/-- of one square alone ints and places have changed -/
def Fr (q : Nat) (h h' : Hp) : Prop := h'.2.1 = h.2.1 ∧ h'.2.2.2 = h.2.2.2 ∧ ∀ a, (a < q ∨ q + 12 ≤ a) → h'.1 a = h.1 a ∧ h'.2.2.1 a = h.2.2.1 a
theorem FrI.fr {q : Nat} {h h' : Hp} (F : FrI q h h') : Fr q h h' := ⟨by rw [F.1], by rw [F.1], fun a ha => ⟨F.2 a ha, by rw [F.1]⟩⟩
theorem Fr.rf {q : Nat} {h : Hp} : Fr q h h := FrI.rf.fr
theorem Fr.tr {q : Nat} {h h' h'' : Hp} (a : Fr q h h') (b : Fr q h' h'') : Fr q h h'' := ⟨b.1.trans a.1, b.2.1.trans a.2.1, fun x hx => ⟨(b.2.2 x hx).1.trans (a.2.2 x hx).1, (b.2.2 x hx).2.trans (a.2.2 x hx).2⟩⟩
theorem Fr.u {q : Nat} {h h' : Hp} (F : Fr q h h') {a k : Nat} {v : Int32} (h1 : q ≤ a) (h2 : a < q + 12) : Fr q h (uI h' a k v) := F.tr (FrI.u FrI.rf h1 h2).fr
theorem Fr.pm {q : Nat} {h : Hp} {π : Nat → Nat} : Fr q h (hpm h q π) := ⟨rfl, rfl, fun a ha => ⟨rfl, funext fun _ => if_neg (by omega)⟩⟩
theorem Rep.fr {h h' : Hp} {q o n : Nat} {r : Nat → Int32} (R : Rep h o n r) (hv : Inv h) (ho : Sqr o) (F : Fr q h h') (hd : o + 12 ≤ q ∨ q + 12 ≤ o) : Rep h' o n r := by
  obtain ⟨h1, h2, h3, h4, h5⟩ := R
  have eo : h'.1 o = h.1 o := (F.2.2 o (by omega)).1
  refine ⟨h1, h2, by show h'.1 o 6 = _; rw [eo]; exact h3, fun k hk => by show h'.1 o k = _; rw [eo]; exact h4 k hk, fun p f hp hf => ?_⟩
  have hi := pn_in hv ho (j := p) (by omega)
  have ep : pn h' o p = pn h o p := by unfold pn; rw [show hR h' (o + 1) p = hR h (o + 1) p by show h'.2.2.1 (o + 1) p = _; rw [(F.2.2 (o + 1) (by omega)).2]]
  show h'.1 (pn h' o p) f = _
  rw [ep, (F.2.2 _ (by omega)).1]
  exact h5 p f hp hf
theorem sp_X2_goAway {g : GG} {h : Hp} {Post : Option Value → Hp → Prop} (hv : Inv h) {q : Nat} (hq : Sqr q) {n : Nat} (hn : n < 10) (h6 : hI h q 6 = nI (n + 1)) {p : Nat} (hp : p < n + 1) (K : Post none (uI (hmv h q p n) q 6 (nI n))) : Sp g mX2_goAway [.ref q, .int (nI p)] h Post := by
  show Go g mX2_goAway 0 [_, _] [] _ _ _
  refine ok_aload_n dX2_goAway_0 rfl rfl ?_
  refine ok_iload_n dX2_goAway_1 rfl rfl ?_
  refine ok_aload_n dX2_goAway_2 rfl rfl ?_
  refine ok_getI dX2_goAway_3 f_X2_31 (by first | exact is_lit hv (by decide) rfl | exact is_sq hv hq | exact is_row hv hq | exact is_pn hv hq (by assumption) | assumption) rfl ?_
  rw [h6]
  refine ok_iconst (v := 1) dX2_goAway_6 (by decide) ?_
  refine ok_isub dX2_goAway_7 ?_
  rw [nI_pred]
  refine ok_callV (M' := mX2_walk) (b' := (0, 0)) (As := [_, _]) (cx := 2) dX2_goAway_8 iX2_walk w_338 (by decide) rfl (by first | exact is_lit hv (by decide) rfl | exact is_sq hv hq | exact is_row hv hq | exact is_pn hv hq (by assumption) | assumption) rfl (Nat.le_of_ble_eq_true rfl) ⟨Nat.le_of_ble_eq_true rfl, Nat.le_of_ble_eq_true rfl⟩ (Nat.le_of_ble_eq_true rfl) rfl rfl ?_
  refine sp_X2_walk hv hq (by omega) hn ?_
  refine ok_aload_n dX2_goAway_11 rfl rfl ?_
  refine ok_dup dX2_goAway_12 rfl ?_
  refine ok_getI dX2_goAway_13 f_X2_31 (show Is h q 2 0 from is_sq hv hq) rfl ?_
  rw [show hI (hmv h q p n) q 6 = nI (n + 1) from h6]
  refine ok_iconst (v := 1) dX2_goAway_16 (by decide) ?_
  refine ok_isub dX2_goAway_17 ?_
  rw [nI_pred]
  refine ok_putI dX2_goAway_18 f_X2_31 (show Is h q 2 0 from is_sq hv hq) rfl rfl rfl rfl ?_
  refine ok_return dX2_goAway_21 rfl ?_
  first | exact K | (simp only [↓reduceIte] at K; exact K)
theorem sp_X2_swapPlaces {g : GG} {h : Hp} {Post : Option Value → Hp → Prop} (hv : Inv h) {q : Nat} (hq : Sqr q) {a b : Nat} (ha : a < 10) (hb : b < 10) (K : Post none (hpm h q (sw a b))) : Sp g mX2_swapPlaces [.ref q, .int (nI a), .int (nI b)] h Post := by
  show Go g mX2_swapPlaces 0 [_, _, _, _] [] _ _ _
  refine ok_aload_n dX2_swapPlaces_0 rfl rfl ?_
  refine ok_getR dX2_swapPlaces_1 f_X2_36 (by first | exact is_lit hv (by decide) rfl | exact is_sq hv hq | exact is_row hv hq | exact is_pn hv hq (by assumption) | assumption) rfl (by first | exact rf hv rfl | exact rf_row hv hq | assumption) ?_
  refine ok_iload_n dX2_swapPlaces_4 rfl rfl ?_
  refine ok_aaloadP dX2_swapPlaces_5 (by first | exact is_lit hv (by decide) rfl | exact is_sq hv hq | exact is_row hv hq | exact is_pn hv hq (by assumption) | assumption) (by first | decide | exact vp_in_nI (by assumption) (by decide) | exact vp_in_nI (by omega) (by decide) | assumption) (rf_nI hv hq ha) ?_
  refine ok_astore_n (lo' := [_, _, _, _]) dX2_swapPlaces_6 rfl (Nat.le_of_ble_eq_true rfl) rfl rfl ?_
  refine ok_aload_n dX2_swapPlaces_7 rfl rfl ?_
  refine ok_getR dX2_swapPlaces_8 f_X2_36 (by first | exact is_lit hv (by decide) rfl | exact is_sq hv hq | exact is_row hv hq | exact is_pn hv hq (by assumption) | assumption) rfl (by first | exact rf hv rfl | exact rf_row hv hq | assumption) ?_
  refine ok_iload_n dX2_swapPlaces_11 rfl rfl ?_
  refine ok_aload_n dX2_swapPlaces_12 rfl rfl ?_
  refine ok_getR dX2_swapPlaces_13 f_X2_36 (by first | exact is_lit hv (by decide) rfl | exact is_sq hv hq | exact is_row hv hq | exact is_pn hv hq (by assumption) | assumption) rfl (by first | exact rf hv rfl | exact rf_row hv hq | assumption) ?_
  refine ok_iload_n dX2_swapPlaces_16 rfl rfl ?_
  refine ok_aaloadP dX2_swapPlaces_17 (by first | exact is_lit hv (by decide) rfl | exact is_sq hv hq | exact is_row hv hq | exact is_pn hv hq (by assumption) | assumption) (by first | decide | exact vp_in_nI (by assumption) (by decide) | exact vp_in_nI (by omega) (by decide) | assumption) (rf_nI hv hq hb) ?_
  refine ok_aastoreP dX2_swapPlaces_18 (by first | exact is_lit hv (by decide) rfl | exact is_sq hv hq | exact is_row hv hq | exact is_pn hv hq (by assumption) | assumption) (is_pn hv hq hb) (vp_in_nI ha (by decide)) ?_
  refine ok_aload_n dX2_swapPlaces_19 rfl rfl ?_
  refine ok_getR dX2_swapPlaces_20 f_X2_36 (show Is h q 2 0 from is_sq hv hq) rfl (show hR (uR h (q + 1) (nI a).toNatClampNeg (some (pn h q b))) q 7 = some (q + 1) from (if_neg (by omega)).trans (rf_row hv hq)) ?_
  refine ok_iload_n dX2_swapPlaces_23 rfl rfl ?_
  refine ok_aload_n dX2_swapPlaces_24 rfl rfl ?_
  refine ok_aastoreP dX2_swapPlaces_25 (show Is h (q + 1) 9 10 from is_row hv hq) (show Is h (pn h q a) 0 0 from is_pn hv hq ha) (vp_in_nI hb (by decide)) ?_
  refine ok_return dX2_swapPlaces_26 rfl ?_
  rw [nI_clamp (by omega), nI_clamp (by omega)]
  have e : uR (uR h (q + 1) a (some (pn h q b))) (q + 1) b (some (pn h q a)) = hpm h q (sw a b) := by
    refine Prod.ext rfl (Prod.ext rfl (Prod.ext (funext fun x => funext fun k => ?_) rfl))
    show (if x = q + 1 ∧ k = b then some (pn h q a) else if x = q + 1 ∧ k = a then some (pn h q b) else h.2.2.1 x k) = if x = q + 1 then h.2.2.1 x (sw a b k) else h.2.2.1 x k
    by_cases hx : x = q + 1
    · subst hx
      rw [if_pos rfl, sw]
      by_cases hkb : k = b
      · rw [if_pos ⟨rfl, hkb⟩]
        by_cases hka : k = a
        · rw [if_pos hka, show a = b by omega]; exact (rf_pn hv hq hb).symm
        · rw [if_neg hka, if_pos hkb]; exact (rf_pn hv hq ha).symm
      · rw [if_neg (fun z => hkb z.2)]
        by_cases hka : k = a
        · rw [if_pos ⟨rfl, hka⟩, if_pos hka]; exact (rf_pn hv hq hb).symm
        · rw [if_neg (fun z => hka z.2), if_neg hka, if_neg hkb]
    · rw [if_neg (fun z => hx z.1), if_neg (fun z => hx z.1), if_neg hx]
  rw [e]
  exact K
