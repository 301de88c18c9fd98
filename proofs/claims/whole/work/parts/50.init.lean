/-! ===== constructors ===== -/
/-- a heap all of whose numbers are 0 -/
def Zh (R : Nat → Nat → Option Nat) (K : Nat → Nat × Nat) (N : Nat) : Hp := (fun _ _ => 0, fun _ _ => 0, R, K, N)
def bR (N : Nat) (R : Nat → Nat → Option Nat) : Nat → Nat → Option Nat := fun b j => if b = N then none else R b j
def bK (N t n : Nat) (K : Nat → Nat × Nat) : Nat → Nat × Nat := fun b => if b = N then (t, n) else K b
def pR (a k r : Nat) (R : Nat → Nat → Option Nat) : Nat → Nat → Option Nat := fun b j => if b = a ∧ j = k then some r else R b j
theorem zu {R : Nat → Nat → Option Nat} {K : Nat → Nat × Nat} {N a k : Nat} : uI (Zh R K N) a k 0 = Zh R K N := by
  have : (fun b j => if b = a ∧ j = k then (0 : Int32) else 0) = fun (_ _ : Nat) => 0 := funext fun b => funext fun j => by split <;> rfl
  show (_, _) = _
  rw [show (fun b j => if b = a ∧ j = k then (0 : Int32) else (Zh R K N).1 b j) = fun b j => if b = a ∧ j = k then (0 : Int32) else 0 from rfl, this]
  rfl
theorem zb {R : Nat → Nat → Option Nat} {K : Nat → Nat × Nat} {N t n : Nat} : born (Zh R K N) t n = Zh (bR N R) (bK N t n K) (N + 1) := by
  have e1 : (fun b j => if b = N then (0 : Int32) else 0) = fun (_ _ : Nat) => 0 := funext fun b => funext fun j => by split <;> rfl
  have e2 : (fun b j => if b = N then (0 : Int64) else 0) = fun (_ _ : Nat) => 0 := funext fun b => funext fun j => by split <;> rfl
  show ((fun b j => if b = N then (0 : Int32) else 0), (fun b j => if b = N then (0 : Int64) else 0), bR N R, bK N t n K, N + 1) = _
  rw [e1, e2]
  rfl
theorem zr {R : Nat → Nat → Option Nat} {K : Nat → Nat × Nat} {N a k r : Nat} : uR (Zh R K N) a k (some r) = Zh (pR a k r R) K N := rfl
theorem zn {R : Nat → Nat → Option Nat} {K : Nat → Nat × Nat} {N : Nat} : hN (Zh R K N) = N := rfl
theorem isZ {R : Nat → Nat → Option Nat} {K : Nat → Nat × Nat} {N a t n : Nat} (h1 : a < N) (h2 : K a = (t, n)) (h3 : a < 1000) : Is (Zh R K N) a t n := ⟨h1, h2, h3⟩
theorem bK_n {N t n a : Nat} {K : Nat → Nat × Nat} {x : Nat × Nat} (h : K a = x) (hne : a ≠ N) : bK N t n K a = x := (if_neg hne).trans h
theorem bK_y {N t n : Nat} {K : Nat → Nat × Nat} : bK N t n K N = (t, n) := if_pos rfl
theorem sp_X0_init {g : GG} {Post : Option Value → Hp → Prop} {h : Hp} (a : Nat) (K : Post none h) : Sp g mX0_init [.ref a] h Post := by
  show Go g mX0_init 0 [_] [] _ _ _
  refine ok_aload_n dX0_init_0 rfl rfl ?_
  refine ok_objInit dX0_init_1 w_98 w_84 w_85 (Nat.le_of_ble_eq_true rfl) (Nat.le_of_ble_eq_true rfl) ?_
  refine ok_return dX0_init_4 rfl ?_
  exact K
theorem sp_X1_init {g : GG} {Post : Option Value → Hp → Prop} {R : Nat → Nat → Option Nat} {K : Nat → Nat × Nat} {N a : Nat} (hN : N < 900) (ha : a < N) (hK : K a = (1, 0)) (C : Post none (Zh (pR a 2 N (bR N R)) (bK N 8 40 K) (N + 1))) : Sp g mX1_init [.ref a] (Zh R K N) Post := by
  show Go g mX1_init 0 [_] [] _ _ _
  refine ok_aload_n dX1_init_0 rfl rfl ?_
  refine ok_objInit dX1_init_1 w_209 w_84 w_85 (Nat.le_of_ble_eq_true rfl) (Nat.le_of_ble_eq_true rfl) ?_
  refine ok_aload_n dX1_init_4 rfl rfl ?_
  refine ok_iconst (v := 0) dX1_init_5 (by decide) ?_
  refine ok_putI dX1_init_6 f_X1_9 (isZ ha hK (by omega)) rfl rfl rfl rfl ?_
  rw [zu]
  refine ok_aload_n dX1_init_9 rfl rfl ?_
  refine ok_iconst (v := 0) dX1_init_10 (by decide) ?_
  refine ok_putI dX1_init_11 f_X1_15 (isZ ha hK (by omega)) rfl rfl rfl rfl ?_
  rw [zu]
  refine ok_aload_n dX1_init_14 rfl rfl ?_
  refine ok_bipush (v := 40) dX1_init_15 (by decide) ?_
  refine ok_newJ (N := 40) (b' := (0, 0)) dX1_init_17 w_223 (by decide) (by decide) (by decide) (show N < 1000 by omega) rfl rfl ?_
  rw [zb, zn]
  refine ok_putRF dX1_init_19 f_X1_18 (isZ (by omega) (bK_n hK (by omega)) (by omega)) rfl rfl rfl rfl (fun _ => rfl) (fun _ => rfl) ?_
  refine ok_return dX1_init_22 rfl ?_
  rw [zr]
  exact C
theorem sp_X3_init {g : GG} {Post : Option Value → Hp → Prop} {R : Nat → Nat → Option Nat} {K : Nat → Nat × Nat} {N a : Nat} (hN : N < 900) (ha : a < N) (hK : K a = (3, 0)) (C : Post none (Zh (pR a 0 N (bR N R)) (bK N 6 120 K) (N + 1))) : Sp g mX3_init [.ref a] (Zh R K N) Post := by
  show Go g mX3_init 0 [_] [] _ _ _
  refine ok_aload_n dX3_init_0 rfl rfl ?_
  refine ok_objInit dX3_init_1 w_181 w_84 w_85 (Nat.le_of_ble_eq_true rfl) (Nat.le_of_ble_eq_true rfl) ?_
  refine ok_aload_n dX3_init_4 rfl rfl ?_
  refine ok_bipush (v := 120) dX3_init_5 (by decide) ?_
  refine ok_newB (N := 120) (b' := (0, 0)) dX3_init_7 w_202 (by decide) (by decide) (by decide) (show N < 1000 by omega) rfl rfl ?_
  rw [zb, zn]
  refine ok_putRF dX3_init_9 f_X3_9 (isZ (by omega) (bK_n hK (by omega)) (by omega)) rfl rfl rfl rfl (fun _ => rfl) (fun _ => rfl) ?_
  rw [zr]
  refine ok_aload_n dX3_init_12 rfl rfl ?_
  refine ok_iconst (v := 0) dX3_init_13 (by decide) ?_
  refine ok_putI dX3_init_14 f_X3_15 (isZ (by omega) (bK_n hK (by omega)) (by omega)) rfl rfl rfl rfl ?_
  rw [zu]
  refine ok_aload_n dX3_init_17 rfl rfl ?_
  refine ok_iconst (v := 0) dX3_init_18 (by decide) ?_
  refine ok_putI dX3_init_19 f_X3_19 (isZ (by omega) (bK_n hK (by omega)) (by omega)) rfl rfl rfl rfl ?_
  rw [zu]
  refine ok_aload_n dX3_init_22 rfl rfl ?_
  refine ok_iconst (v := 0) dX3_init_23 (by decide) ?_
  refine ok_putI dX3_init_24 f_X3_22 (isZ (by omega) (bK_n hK (by omega)) (by omega)) rfl rfl rfl rfl ?_
  rw [zu]
  refine ok_aload_n dX3_init_27 rfl rfl ?_
  refine ok_iconst (v := 0) dX3_init_28 (by decide) ?_
  refine ok_putI dX3_init_29 f_X3_25 (isZ (by omega) (bK_n hK (by omega)) (by omega)) rfl rfl rfl rfl ?_
  rw [zu]
  refine ok_aload_n dX3_init_32 rfl rfl ?_
  refine ok_iconst (v := 0) dX3_init_33 (by decide) ?_
  refine ok_putI dX3_init_34 f_X3_28 (isZ (by omega) (bK_n hK (by omega)) (by omega)) rfl rfl rfl rfl ?_
  refine ok_return dX3_init_37 rfl ?_
  rw [zu]
  exact C
def sqR (q i : Nat) (R : Nat → Nat → Option Nat) : Nat → Nat → Option Nat := fun b j => if b = q + 1 then (if j < i then some (q + 2 + j) else none) else if q + 2 ≤ b ∧ b < q + 2 + i then none else if b = q ∧ j = 7 then some (q + 1) else R b j
def sqK (q i : Nat) (K : Nat → Nat × Nat) : Nat → Nat × Nat := fun b => if b = q + 1 then (9, 10) else if q + 2 ≤ b ∧ b < q + 2 + i then (0, 0) else K b
theorem sqR_0 {q : Nat} {R : Nat → Nat → Option Nat} : pR q 7 (q + 1) (bR (q + 1) R) = sqR q 0 R := by
  funext b j
  unfold pR bR sqR
  by_cases e1 : b = q + 1
  · rw [if_neg (by omega), if_pos e1, if_pos e1, if_neg (by omega)]
  · rw [if_neg e1, if_neg e1, if_neg (show ¬ (q + 2 ≤ b ∧ b < q + 2 + 0) by omega)]
theorem sqK_0 {q : Nat} {K : Nat → Nat × Nat} : bK (q + 1) 9 10 K = sqK q 0 K := by
  funext b
  unfold bK sqK
  by_cases e1 : b = q + 1
  · rw [if_pos e1, if_pos e1]
  · rw [if_neg e1, if_neg e1, if_neg (by omega)]
theorem sqR_s {q i : Nat} {R : Nat → Nat → Option Nat} : pR (q + 1) i (q + 2 + i) (bR (q + 2 + i) (sqR q i R)) = sqR q (i + 1) R := by
  funext b j
  unfold pR bR sqR
  by_cases e1 : b = q + 1
  · by_cases e2 : j = i
    · rw [if_pos ⟨e1, e2⟩, if_pos e1, if_pos (by omega), e2]
    · rw [if_neg (fun z => e2 z.2), if_neg (by omega), if_pos e1, if_pos e1]
      by_cases e3 : j < i
      · rw [if_pos e3, if_pos (by omega)]
      · rw [if_neg e3, if_neg (by omega)]
  · rw [if_neg (fun z => e1 z.1), if_neg e1, if_neg e1]
    by_cases e2 : b = q + 2 + i
    · rw [if_pos e2, if_pos (show q + 2 ≤ b ∧ b < q + 2 + (i + 1) by omega)]
    · rw [if_neg e2]
      by_cases e3 : q + 2 ≤ b ∧ b < q + 2 + i
      · rw [if_pos e3, if_pos (show q + 2 ≤ b ∧ b < q + 2 + (i + 1) by omega)]
      · rw [if_neg e3, if_neg (show ¬ (q + 2 ≤ b ∧ b < q + 2 + (i + 1)) by omega)]
theorem sqK_s {q i : Nat} {K : Nat → Nat × Nat} : bK (q + 2 + i) 0 0 (sqK q i K) = sqK q (i + 1) K := by
  funext b
  unfold bK sqK
  by_cases e1 : b = q + 1
  · rw [if_neg (by omega), if_pos e1, if_pos e1]
  · rw [if_neg e1, if_neg e1]
    by_cases e2 : b = q + 2 + i
    · rw [if_pos e2, if_pos (by omega)]
    · rw [if_neg e2]
      by_cases e3 : q + 2 ≤ b ∧ b < q + 2 + i
      · rw [if_pos e3, if_pos (by omega)]
      · rw [if_neg e3, if_neg (by omega)]
theorem sqK_q {q i : Nat} {K : Nat → Nat × Nat} {x : Nat × Nat} (h : K q = x) : sqK q i K q = x := (if_neg (by omega)).trans ((if_neg (by omega)).trans h)
theorem sqK_r {q i : Nat} {K : Nat → Nat × Nat} : sqK q i K (q + 1) = (9, 10) := if_pos rfl
theorem sqR_7 {q i : Nat} {R : Nat → Nat → Option Nat} : sqR q i R q 7 = some (q + 1) := (if_neg (by omega)).trans ((if_neg (by omega)).trans (if_pos ⟨rfl, rfl⟩))
theorem lp_X2_init_50 {g : GG} {Post : Option Value → Hp → Prop} (X : Gx g) {R : Nat → Nat → Option Nat} {K : Nat → Nat × Nat} {q : Nat} (hq : q < 800) (hK : K q = (2, 0)) (C : Post none (Zh (sqR q 10 R) (sqK q 10 K) (q + 12))) : ∀ (k i : Nat), i + k = 10 → Go g mX2_init 50 [some (.ref q), some (.int (nI i))] [] (Zh (sqR q i R) (sqK q i K) (q + 2 + i)) (k, 7 * k) Post := by
  intro k
  induction k with
  | zero =>
    intro i hik
    obtain rfl : i = 10 := by omega
    refine ok_iload_n dX2_init_50 rfl rfl ?_
    refine ok_bipush (v := 10) dX2_init_51 (by decide) ?_
    refine ok_icmp_ge (tgt := 75) dX2_init_53 (by decide) (fun _ => ?_) (fun c9 => absurd (by decide) c9)
    refine ok_return dX2_init_75 rfl ?_
    exact C
  | succ k ih =>
    intro i hik
    have hi : i < 10 := by omega
    refine ok_iload_n dX2_init_50 rfl rfl ?_
    refine ok_bipush (v := 10) dX2_init_51 (by decide) ?_
    refine ok_icmp_ge (tgt := 75) dX2_init_53 (by decide) (fun c9 => absurd c9 (nI_ge hi (by decide))) (fun _ => ?_)
    refine ok_aload_n dX2_init_56 rfl rfl ?_
    refine ok_getR dX2_init_57 f_X2_36 (isZ (by omega) (sqK_q hK) (by omega)) rfl sqR_7 ?_
    refine ok_iload_n dX2_init_60 rfl rfl ?_
    refine ok_new (c := 0) (b' := (k, 7 * k)) dX2_init_61 (by decide) w_92 w_94 w_67 (show q + 2 + i < 1000 by omega) (by omega) (show 7 * k + 7 = 7 * (k + 1) by omega) ?_
    rw [zb, zn]
    refine ok_dup dX2_init_64 rfl ?_
    refine ok_callIN (M' := mX0_init) (b' := (k, 7 * k)) (As := []) (host := "CoinFountain") dX2_init_65 iX0_init (fun U hU => (X U hU).2.2.2.2.2.2.2.2.1) rfl (Nat.le_of_ble_eq_true rfl) ⟨Nat.le_of_ble_eq_true rfl, Nat.le_of_ble_eq_true rfl⟩ (Nat.le_of_ble_eq_true rfl) rfl rfl ?_
    refine sp_X0_init _ ?_
    refine ok_aastoreP dX2_init_68 (isZ (by omega) (bK_n sqK_r (by omega)) (by omega)) (isZ (by omega) bK_y (by omega)) (vp_in_nI hi (by decide)) ?_
    refine ok_iinc (v := _ + 1) (lo' := [_, _]) dX2_init_69 rfl rfl (Nat.le_of_ble_eq_true rfl) rfl rfl ?_
    refine ok_goto (tgt := 50) dX2_init_72 (by decide) ?_
    rw [nI_1, nI_clamp (by omega), zr, sqR_s, sqK_s]
    exact ih (i + 1) (by omega)
theorem sp_X2_init {g : GG} {Post : Option Value → Hp → Prop} (X : Gx g) {R : Nat → Nat → Option Nat} {K : Nat → Nat × Nat} {q : Nat} (hq : q < 800) (hK : K q = (2, 0)) (C : Post none (Zh (sqR q 10 R) (sqK q 10 K) (q + 12))) : Sp g mX2_init [.ref q] (Zh R K (q + 1)) Post := by
  show Go g mX2_init 0 [_, _] [] _ _ _
  refine ok_aload_n dX2_init_0 rfl rfl ?_
  refine ok_objInit dX2_init_1 w_91 w_84 w_85 (Nat.le_of_ble_eq_true rfl) (Nat.le_of_ble_eq_true rfl) ?_
  refine ok_aload_n dX2_init_4 rfl rfl ?_
  refine ok_iconst (v := 0) dX2_init_5 (by decide) ?_
  refine ok_putI dX2_init_6 f_X2_9 (isZ (by omega) hK (by omega)) rfl rfl rfl rfl ?_
  rw [zu]
  refine ok_aload_n dX2_init_9 rfl rfl ?_
  refine ok_iconst (v := 0) dX2_init_10 (by decide) ?_
  refine ok_putI dX2_init_11 f_X2_15 (isZ (by omega) hK (by omega)) rfl rfl rfl rfl ?_
  rw [zu]
  refine ok_aload_n dX2_init_14 rfl rfl ?_
  refine ok_iconst (v := 0) dX2_init_15 (by decide) ?_
  refine ok_putI dX2_init_16 f_X2_18 (isZ (by omega) hK (by omega)) rfl rfl rfl rfl ?_
  rw [zu]
  refine ok_aload_n dX2_init_19 rfl rfl ?_
  refine ok_iconst (v := 0) dX2_init_20 (by decide) ?_
  refine ok_putI dX2_init_21 f_X2_22 (isZ (by omega) hK (by omega)) rfl rfl rfl rfl ?_
  rw [zu]
  refine ok_aload_n dX2_init_24 rfl rfl ?_
  refine ok_iconst (v := 0) dX2_init_25 (by decide) ?_
  refine ok_putI dX2_init_26 f_X2_25 (isZ (by omega) hK (by omega)) rfl rfl rfl rfl ?_
  rw [zu]
  refine ok_aload_n dX2_init_29 rfl rfl ?_
  refine ok_iconst (v := 0) dX2_init_30 (by decide) ?_
  refine ok_putI dX2_init_31 f_X2_28 (isZ (by omega) hK (by omega)) rfl rfl rfl rfl ?_
  rw [zu]
  refine ok_aload_n dX2_init_34 rfl rfl ?_
  refine ok_iconst (v := 0) dX2_init_35 (by decide) ?_
  refine ok_putI dX2_init_36 f_X2_31 (isZ (by omega) hK (by omega)) rfl rfl rfl rfl ?_
  rw [zu]
  refine ok_aload_n dX2_init_39 rfl rfl ?_
  refine ok_bipush (v := 10) dX2_init_40 (by decide) ?_
  refine ok_newQ9 (N := 10) (b' := (10, 70)) dX2_init_42 w_92 (fun U hU => (X U hU).2.2.2.2.2.2.1) (by decide) (by decide) (by decide) (show q + 1 < 1000 by omega) rfl rfl ?_
  rw [zb, zn]
  refine ok_putRF dX2_init_45 f_X2_36 (isZ (by omega) (bK_n hK (by omega)) (by omega)) rfl rfl rfl rfl (fun _ => rfl) (fun _ => rfl) ?_
  rw [zr, sqR_0, sqK_0]
  refine ok_iconst (v := 0) dX2_init_48 (by decide) ?_
  refine ok_istore_n (lo' := [_, _]) dX2_init_49 rfl (Nat.le_of_ble_eq_true rfl) rfl rfl ?_
  exact lp_X2_init_50 X hq hK C 10 0 (by omega)
def R4 (R : Nat → Nat → Option Nat) : Nat → Nat → Option Nat := (pR 40 3 47 (pR 47 2 48 (bR 48 (bR 47 (pR 40 2 45 (pR 45 2 46 (bR 46 (bR 45 (pR 40 1 43 (pR 43 2 44 (bR 44 (bR 43 (pR 40 0 41 (pR 41 2 42 (bR 42 (bR 41 (pR 0 6 40 (bR 40 (pR 0 5 38 (pR 38 0 39 (bR 39 (bR 38 (pR 0 3 26 (sqR 26 10 (bR 26 (pR 0 2 14 (sqR 14 10 (bR 14 (pR 0 1 2 (sqR 2 10 (bR 2 (pR 0 0 1 (bR 1 R)))))))))))))))))))))))))))))))))
def K4 (K : Nat → Nat × Nat) : Nat → Nat × Nat := (bK 48 8 40 (bK 47 1 0 (bK 46 8 40 (bK 45 1 0 (bK 44 8 40 (bK 43 1 0 (bK 42 8 40 (bK 41 1 0 (bK 40 10 4 (bK 39 6 120 (bK 38 3 0 (sqK 26 10 (bK 26 2 0 (sqK 14 10 (bK 14 2 0 (sqK 2 10 (bK 2 2 0 (bK 1 7 7 K))))))))))))))))))
theorem sp_X4_init {g : GG} {Post : Option Value → Hp → Prop} (X : Gx g) {R : Nat → Nat → Option Nat} {K : Nat → Nat × Nat} (hK : K 0 = (4, 0)) (C : Post none (Zh (R4 R) (K4 K) 49)) : Sp g mX4_init [.ref 0] (Zh R K 1) Post := by
  show Go g mX4_init 0 [_, _] [] _ (48, 573) _
  refine ok_aload_n dX4_init_0 rfl rfl ?_
  refine ok_objInit dX4_init_1 w_83 w_84 w_85 (Nat.le_of_ble_eq_true rfl) (Nat.le_of_ble_eq_true rfl) ?_
  refine ok_aload_n dX4_init_4 rfl rfl ?_
  refine ok_bipush (v := 7) dX4_init_5 (by decide) ?_
  refine ok_newI (N := 7) (b' := (47, 566)) dX4_init_7 w_138 (by decide) (by decide) (by decide) (show 1 < 1000 by decide) rfl rfl ?_
  rw [zb, zn]
  refine ok_putRF dX4_init_9 f_X4_9 (isZ (by decide) (by simp [bK, sqK, hK]) (by decide)) rfl rfl rfl rfl (fun _ => rfl) (fun _ => rfl) ?_
  rw [zr]
  refine ok_aload_n dX4_init_12 rfl rfl ?_
  refine ok_new (c := 2) (b' := (46, 558)) dX4_init_13 (by decide) w_86 w_87 w_66 (show 2 < 1000 by decide) rfl rfl ?_
  rw [zb, zn]
  refine ok_dup dX4_init_16 rfl ?_
  refine ok_callI (M' := mX2_init) (b' := (35, 478)) (As := []) dX4_init_17 iX2_init w_88 rfl (Nat.le_of_ble_eq_true rfl) ⟨Nat.le_of_ble_eq_true rfl, Nat.le_of_ble_eq_true rfl⟩ (Nat.le_of_ble_eq_true rfl) rfl rfl ?_
  refine sp_X2_init X (q := 2) (by decide) bK_y ?_
  refine ok_putRF dX4_init_20 f_X4_16 (isZ (by decide) (by simp [bK, sqK, hK]) (by decide)) rfl rfl rfl rfl (fun _ => rfl) (fun _ => rfl) ?_
  rw [zr]
  refine ok_aload_n dX4_init_23 rfl rfl ?_
  refine ok_new (c := 2) (b' := (34, 470)) dX4_init_24 (by decide) w_86 w_87 w_66 (show 14 < 1000 by decide) rfl rfl ?_
  rw [zb, zn]
  refine ok_dup dX4_init_27 rfl ?_
  refine ok_callI (M' := mX2_init) (b' := (23, 390)) (As := []) dX4_init_28 iX2_init w_88 rfl (Nat.le_of_ble_eq_true rfl) ⟨Nat.le_of_ble_eq_true rfl, Nat.le_of_ble_eq_true rfl⟩ (Nat.le_of_ble_eq_true rfl) rfl rfl ?_
  refine sp_X2_init X (q := 14) (by decide) bK_y ?_
  refine ok_putRF dX4_init_31 f_X4_20 (isZ (by decide) (by simp [bK, sqK, hK]) (by decide)) rfl rfl rfl rfl (fun _ => rfl) (fun _ => rfl) ?_
  rw [zr]
  refine ok_aload_n dX4_init_34 rfl rfl ?_
  refine ok_new (c := 2) (b' := (22, 382)) dX4_init_35 (by decide) w_86 w_87 w_66 (show 26 < 1000 by decide) rfl rfl ?_
  rw [zb, zn]
  refine ok_dup dX4_init_38 rfl ?_
  refine ok_callI (M' := mX2_init) (b' := (11, 302)) (As := []) dX4_init_39 iX2_init w_88 rfl (Nat.le_of_ble_eq_true rfl) ⟨Nat.le_of_ble_eq_true rfl, Nat.le_of_ble_eq_true rfl⟩ (Nat.le_of_ble_eq_true rfl) rfl rfl ?_
  refine sp_X2_init X (q := 26) (by decide) bK_y ?_
  refine ok_putRF dX4_init_42 f_X4_23 (isZ (by decide) (by simp [bK, sqK, hK]) (by decide)) rfl rfl rfl rfl (fun _ => rfl) (fun _ => rfl) ?_
  rw [zr]
  refine ok_aload_n dX4_init_45 rfl rfl ?_
  refine ok_iconst (v := 0) dX4_init_46 (by decide) ?_
  refine ok_putI dX4_init_47 f_X4_26 (isZ (by decide) (by simp [bK, sqK, hK]) (by decide)) rfl rfl rfl rfl ?_
  rw [zu]
  refine ok_aload_n dX4_init_50 rfl rfl ?_
  refine ok_new (c := 3) (b' := (10, 296)) dX4_init_51 (by decide) w_176 w_177 w_68 (show 38 < 1000 by decide) rfl rfl ?_
  rw [zb, zn]
  refine ok_dup dX4_init_54 rfl ?_
  refine ok_callIN (M' := mX3_init) (b' := (9, 176)) (As := []) (host := "CoinFountain") dX4_init_55 iX3_init (fun U hU => (X U hU).2.2.2.2.2.2.2.2.2.1) rfl (Nat.le_of_ble_eq_true rfl) ⟨Nat.le_of_ble_eq_true rfl, Nat.le_of_ble_eq_true rfl⟩ (Nat.le_of_ble_eq_true rfl) rfl rfl ?_
  refine sp_X3_init (N := 39) (a := 38) (by decide) (by decide) bK_y ?_
  refine ok_putRF dX4_init_58 f_X4_33 (isZ (by decide) (by simp [bK, sqK, hK]) (by decide)) rfl rfl rfl rfl (fun _ => rfl) (fun _ => rfl) ?_
  rw [zr]
  refine ok_aload_n dX4_init_61 rfl rfl ?_
  refine ok_iconst (v := 4) dX4_init_62 (by decide) ?_
  refine ok_newQ10 (N := 4) (b' := (8, 172)) dX4_init_63 w_203 (fun U hU => (X U hU).2.2.2.2.2.2.2.1) (by decide) (by decide) (by decide) (show 40 < 1000 by decide) rfl rfl ?_
  rw [zb, zn]
  refine ok_putRF dX4_init_66 f_X4_39 (isZ (by decide) (by simp [bK, sqK, hK]) (by decide)) rfl rfl rfl rfl (fun _ => rfl) (fun _ => rfl) ?_
  rw [zr]
  refine ok_iconst (v := 0) dX4_init_69 (by decide) ?_
  refine ok_istore_n (lo' := [_, _]) dX4_init_70 rfl (Nat.le_of_ble_eq_true rfl) rfl rfl ?_
  skip
  refine ok_iload_n dX4_init_71 rfl rfl ?_
  refine ok_iconst (v := 4) dX4_init_72 (by decide) ?_
  refine ok_icmp_ge (tgt := 95) dX4_init_73 (by decide) (fun c9 => absurd c9 (by decide)) (fun _ => ?_)
  refine ok_aload_n dX4_init_76 rfl rfl ?_
  refine ok_getR dX4_init_77 f_X4_39 (isZ (by decide) (by simp [bK, sqK, hK]) (by decide)) rfl (by show _ = some 40; simp [hR, Zh, pR, bR]) ?_
  refine ok_iload_n dX4_init_80 rfl rfl ?_
  refine ok_new (c := 1) (b' := (7, 169)) dX4_init_81 (by decide) w_203 w_205 w_69 (show 41 < 1000 by decide) rfl rfl ?_
  rw [zb, zn]
  refine ok_dup dX4_init_84 rfl ?_
  refine ok_callIN (M' := mX1_init) (b' := (6, 129)) (As := []) (host := "CoinFountain") dX4_init_85 iX1_init (fun U hU => (X U hU).2.2.2.2.2.2.2.2.2.2) rfl (Nat.le_of_ble_eq_true rfl) ⟨Nat.le_of_ble_eq_true rfl, Nat.le_of_ble_eq_true rfl⟩ (Nat.le_of_ble_eq_true rfl) rfl rfl ?_
  refine sp_X1_init (N := 42) (a := 41) (by decide) (by decide) bK_y ?_
  refine ok_aastoreS dX4_init_88 (isZ (t := 10) (n := 4) (by decide) (by simp [bK, sqK, hK]) (by decide)) (isZ (by decide) (by simp [bK, sqK, hK]) (by decide)) (by unfold vp_in; decide) ?_
  rw [zr, show Int32.toNatClampNeg (0) = 0 from by decide]
  refine ok_iinc (v := _ + 1) (lo' := [_, _]) dX4_init_89 rfl rfl (Nat.le_of_ble_eq_true rfl) rfl rfl ?_
  refine ok_goto (tgt := 71) dX4_init_92 (by decide) ?_
  skip
  refine ok_iload_n dX4_init_71 rfl rfl ?_
  refine ok_iconst (v := 4) dX4_init_72 (by decide) ?_
  refine ok_icmp_ge (tgt := 95) dX4_init_73 (by decide) (fun c9 => absurd c9 (by decide)) (fun _ => ?_)
  refine ok_aload_n dX4_init_76 rfl rfl ?_
  refine ok_getR dX4_init_77 f_X4_39 (isZ (by decide) (by simp [bK, sqK, hK]) (by decide)) rfl (by show _ = some 40; simp [hR, Zh, pR, bR]) ?_
  refine ok_iload_n dX4_init_80 rfl rfl ?_
  refine ok_new (c := 1) (b' := (5, 126)) dX4_init_81 (by decide) w_203 w_205 w_69 (show 43 < 1000 by decide) rfl rfl ?_
  rw [zb, zn]
  refine ok_dup dX4_init_84 rfl ?_
  refine ok_callIN (M' := mX1_init) (b' := (4, 86)) (As := []) (host := "CoinFountain") dX4_init_85 iX1_init (fun U hU => (X U hU).2.2.2.2.2.2.2.2.2.2) rfl (Nat.le_of_ble_eq_true rfl) ⟨Nat.le_of_ble_eq_true rfl, Nat.le_of_ble_eq_true rfl⟩ (Nat.le_of_ble_eq_true rfl) rfl rfl ?_
  refine sp_X1_init (N := 44) (a := 43) (by decide) (by decide) bK_y ?_
  refine ok_aastoreS dX4_init_88 (isZ (t := 10) (n := 4) (by decide) (by simp [bK, sqK, hK]) (by decide)) (isZ (by decide) (by simp [bK, sqK, hK]) (by decide)) (by unfold vp_in; decide) ?_
  rw [zr, show Int32.toNatClampNeg (0 + 1) = 1 from by decide]
  refine ok_iinc (v := _ + 1) (lo' := [_, _]) dX4_init_89 rfl rfl (Nat.le_of_ble_eq_true rfl) rfl rfl ?_
  refine ok_goto (tgt := 71) dX4_init_92 (by decide) ?_
  skip
  refine ok_iload_n dX4_init_71 rfl rfl ?_
  refine ok_iconst (v := 4) dX4_init_72 (by decide) ?_
  refine ok_icmp_ge (tgt := 95) dX4_init_73 (by decide) (fun c9 => absurd c9 (by decide)) (fun _ => ?_)
  refine ok_aload_n dX4_init_76 rfl rfl ?_
  refine ok_getR dX4_init_77 f_X4_39 (isZ (by decide) (by simp [bK, sqK, hK]) (by decide)) rfl (by show _ = some 40; simp [hR, Zh, pR, bR]) ?_
  refine ok_iload_n dX4_init_80 rfl rfl ?_
  refine ok_new (c := 1) (b' := (3, 83)) dX4_init_81 (by decide) w_203 w_205 w_69 (show 45 < 1000 by decide) rfl rfl ?_
  rw [zb, zn]
  refine ok_dup dX4_init_84 rfl ?_
  refine ok_callIN (M' := mX1_init) (b' := (2, 43)) (As := []) (host := "CoinFountain") dX4_init_85 iX1_init (fun U hU => (X U hU).2.2.2.2.2.2.2.2.2.2) rfl (Nat.le_of_ble_eq_true rfl) ⟨Nat.le_of_ble_eq_true rfl, Nat.le_of_ble_eq_true rfl⟩ (Nat.le_of_ble_eq_true rfl) rfl rfl ?_
  refine sp_X1_init (N := 46) (a := 45) (by decide) (by decide) bK_y ?_
  refine ok_aastoreS dX4_init_88 (isZ (t := 10) (n := 4) (by decide) (by simp [bK, sqK, hK]) (by decide)) (isZ (by decide) (by simp [bK, sqK, hK]) (by decide)) (by unfold vp_in; decide) ?_
  rw [zr, show Int32.toNatClampNeg (0 + 1 + 1) = 2 from by decide]
  refine ok_iinc (v := _ + 1) (lo' := [_, _]) dX4_init_89 rfl rfl (Nat.le_of_ble_eq_true rfl) rfl rfl ?_
  refine ok_goto (tgt := 71) dX4_init_92 (by decide) ?_
  skip
  refine ok_iload_n dX4_init_71 rfl rfl ?_
  refine ok_iconst (v := 4) dX4_init_72 (by decide) ?_
  refine ok_icmp_ge (tgt := 95) dX4_init_73 (by decide) (fun c9 => absurd c9 (by decide)) (fun _ => ?_)
  refine ok_aload_n dX4_init_76 rfl rfl ?_
  refine ok_getR dX4_init_77 f_X4_39 (isZ (by decide) (by simp [bK, sqK, hK]) (by decide)) rfl (by show _ = some 40; simp [hR, Zh, pR, bR]) ?_
  refine ok_iload_n dX4_init_80 rfl rfl ?_
  refine ok_new (c := 1) (b' := (1, 40)) dX4_init_81 (by decide) w_203 w_205 w_69 (show 47 < 1000 by decide) rfl rfl ?_
  rw [zb, zn]
  refine ok_dup dX4_init_84 rfl ?_
  refine ok_callIN (M' := mX1_init) (b' := (0, 0)) (As := []) (host := "CoinFountain") dX4_init_85 iX1_init (fun U hU => (X U hU).2.2.2.2.2.2.2.2.2.2) rfl (Nat.le_of_ble_eq_true rfl) ⟨Nat.le_of_ble_eq_true rfl, Nat.le_of_ble_eq_true rfl⟩ (Nat.le_of_ble_eq_true rfl) rfl rfl ?_
  refine sp_X1_init (N := 48) (a := 47) (by decide) (by decide) bK_y ?_
  refine ok_aastoreS dX4_init_88 (isZ (t := 10) (n := 4) (by decide) (by simp [bK, sqK, hK]) (by decide)) (isZ (by decide) (by simp [bK, sqK, hK]) (by decide)) (by unfold vp_in; decide) ?_
  rw [zr, show Int32.toNatClampNeg (0 + 1 + 1 + 1) = 3 from by decide]
  refine ok_iinc (v := _ + 1) (lo' := [_, _]) dX4_init_89 rfl rfl (Nat.le_of_ble_eq_true rfl) rfl rfl ?_
  refine ok_goto (tgt := 71) dX4_init_92 (by decide) ?_
  skip
  refine ok_iload_n dX4_init_71 rfl rfl ?_
  refine ok_iconst (v := 4) dX4_init_72 (by decide) ?_
  refine ok_icmp_ge (tgt := 95) dX4_init_73 (by decide) (fun _ => ?_) (fun c9 => absurd (by decide) c9)
  refine ok_return dX4_init_95 rfl ?_
  exact C
def R5 (R : Nat → Nat → Option Nat) : Nat → Nat → Option Nat := (pR 49 19 61 (bR 61 (pR 49 18 60 (bR 60 (pR 49 17 59 (bR 59 (pR 49 16 58 (bR 58 (pR 49 15 57 (bR 57 (pR 49 14 56 (bR 56 (pR 49 6 55 (bR 55 (pR 49 5 54 (bR 54 (pR 49 3 53 (bR 53 (pR 49 2 52 (bR 52 (pR 49 1 51 (bR 51 (pR 49 0 50 (bR 50 R))))))))))))))))))))))))
def K5 (K : Nat → Nat × Nat) : Nat → Nat × Nat := (bK 61 7 77 (bK 60 7 77 (bK 59 8 40 (bK 58 8 160 (bK 57 7 4 (bK 56 7 4 (bK 55 7 120 (bK 54 7 77 (bK 53 7 10 (bK 52 7 10 (bK 51 7 7 (bK 50 7 77 K))))))))))))
theorem sp_X5_init {g : GG} {Post : Option Value → Hp → Prop} {R : Nat → Nat → Option Nat} {K : Nat → Nat × Nat} (hK : K 49 = (5, 0)) (C : Post none (Zh (R5 R) (K5 K) 62)) : Sp g mX5_init [.ref 49] (Zh R K 50) Post := by
  show Go g mX5_init 0 [_] [] _ (12, 663) _
  refine ok_aload_n dX5_init_0 rfl rfl ?_
  refine ok_objInit dX5_init_1 w_774 w_84 w_85 (Nat.le_of_ble_eq_true rfl) (Nat.le_of_ble_eq_true rfl) ?_
  refine ok_aload_n dX5_init_4 rfl rfl ?_
  refine ok_bipush (v := 77) dX5_init_5 (by decide) ?_
  refine ok_newI (N := 77) (b' := (11, 586)) dX5_init_7 w_138 (by decide) (by decide) (by decide) (show 50 < 1000 by decide) rfl rfl ?_
  rw [zb, zn]
  refine ok_putRF dX5_init_9 f_X5_7 (isZ (by decide) (by simp [bK, hK]) (by decide)) rfl rfl rfl rfl (fun _ => rfl) (fun _ => rfl) ?_
  rw [zr]
  refine ok_aload_n dX5_init_12 rfl rfl ?_
  refine ok_bipush (v := 7) dX5_init_13 (by decide) ?_
  refine ok_newI (N := 7) (b' := (10, 579)) dX5_init_15 w_138 (by decide) (by decide) (by decide) (show 51 < 1000 by decide) rfl rfl ?_
  rw [zb, zn]
  refine ok_putRF dX5_init_17 f_X5_13 (isZ (by decide) (by simp [bK, hK]) (by decide)) rfl rfl rfl rfl (fun _ => rfl) (fun _ => rfl) ?_
  rw [zr]
  refine ok_aload_n dX5_init_20 rfl rfl ?_
  refine ok_bipush (v := 10) dX5_init_21 (by decide) ?_
  refine ok_newI (N := 10) (b' := (9, 569)) dX5_init_23 w_138 (by decide) (by decide) (by decide) (show 52 < 1000 by decide) rfl rfl ?_
  rw [zb, zn]
  refine ok_putRF dX5_init_25 f_X5_16 (isZ (by decide) (by simp [bK, hK]) (by decide)) rfl rfl rfl rfl (fun _ => rfl) (fun _ => rfl) ?_
  rw [zr]
  refine ok_aload_n dX5_init_28 rfl rfl ?_
  refine ok_bipush (v := 10) dX5_init_29 (by decide) ?_
  refine ok_newI (N := 10) (b' := (8, 559)) dX5_init_31 w_138 (by decide) (by decide) (by decide) (show 53 < 1000 by decide) rfl rfl ?_
  rw [zb, zn]
  refine ok_putRF dX5_init_33 f_X5_19 (isZ (by decide) (by simp [bK, hK]) (by decide)) rfl rfl rfl rfl (fun _ => rfl) (fun _ => rfl) ?_
  rw [zr]
  refine ok_aload_n dX5_init_36 rfl rfl ?_
  refine ok_bipush (v := 77) dX5_init_37 (by decide) ?_
  refine ok_newI (N := 77) (b' := (7, 482)) dX5_init_39 w_138 (by decide) (by decide) (by decide) (show 54 < 1000 by decide) rfl rfl ?_
  rw [zb, zn]
  refine ok_putRF dX5_init_41 f_X5_22 (isZ (by decide) (by simp [bK, hK]) (by decide)) rfl rfl rfl rfl (fun _ => rfl) (fun _ => rfl) ?_
  rw [zr]
  refine ok_aload_n dX5_init_44 rfl rfl ?_
  refine ok_bipush (v := 120) dX5_init_45 (by decide) ?_
  refine ok_newI (N := 120) (b' := (6, 362)) dX5_init_47 w_138 (by decide) (by decide) (by decide) (show 55 < 1000 by decide) rfl rfl ?_
  rw [zb, zn]
  refine ok_putRF dX5_init_49 f_X5_25 (isZ (by decide) (by simp [bK, hK]) (by decide)) rfl rfl rfl rfl (fun _ => rfl) (fun _ => rfl) ?_
  rw [zr]
  refine ok_aload_n dX5_init_52 rfl rfl ?_
  refine ok_iconst (v := 4) dX5_init_53 (by decide) ?_
  refine ok_newI (N := 4) (b' := (5, 358)) dX5_init_54 w_138 (by decide) (by decide) (by decide) (show 56 < 1000 by decide) rfl rfl ?_
  rw [zb, zn]
  refine ok_putRF dX5_init_56 f_X5_28 (isZ (by decide) (by simp [bK, hK]) (by decide)) rfl rfl rfl rfl (fun _ => rfl) (fun _ => rfl) ?_
  rw [zr]
  refine ok_aload_n dX5_init_59 rfl rfl ?_
  refine ok_iconst (v := 4) dX5_init_60 (by decide) ?_
  refine ok_newI (N := 4) (b' := (4, 354)) dX5_init_61 w_138 (by decide) (by decide) (by decide) (show 57 < 1000 by decide) rfl rfl ?_
  rw [zb, zn]
  refine ok_putRF dX5_init_63 f_X5_31 (isZ (by decide) (by simp [bK, hK]) (by decide)) rfl rfl rfl rfl (fun _ => rfl) (fun _ => rfl) ?_
  rw [zr]
  refine ok_aload_n dX5_init_66 rfl rfl ?_
  refine ok_sipush (v := 160) dX5_init_67 (by decide) ?_
  refine ok_newJ (N := 160) (b' := (3, 194)) dX5_init_70 w_223 (by decide) (by decide) (by decide) (show 58 < 1000 by decide) rfl rfl ?_
  rw [zb, zn]
  refine ok_putRF dX5_init_72 f_X5_34 (isZ (by decide) (by simp [bK, hK]) (by decide)) rfl rfl rfl rfl (fun _ => rfl) (fun _ => rfl) ?_
  rw [zr]
  refine ok_aload_n dX5_init_75 rfl rfl ?_
  refine ok_bipush (v := 40) dX5_init_76 (by decide) ?_
  refine ok_newJ (N := 40) (b' := (2, 154)) dX5_init_78 w_223 (by decide) (by decide) (by decide) (show 59 < 1000 by decide) rfl rfl ?_
  rw [zb, zn]
  refine ok_putRF dX5_init_80 f_X5_38 (isZ (by decide) (by simp [bK, hK]) (by decide)) rfl rfl rfl rfl (fun _ => rfl) (fun _ => rfl) ?_
  rw [zr]
  refine ok_aload_n dX5_init_83 rfl rfl ?_
  refine ok_bipush (v := 77) dX5_init_84 (by decide) ?_
  refine ok_newI (N := 77) (b' := (1, 77)) dX5_init_86 w_138 (by decide) (by decide) (by decide) (show 60 < 1000 by decide) rfl rfl ?_
  rw [zb, zn]
  refine ok_putRF dX5_init_88 f_X5_41 (isZ (by decide) (by simp [bK, hK]) (by decide)) rfl rfl rfl rfl (fun _ => rfl) (fun _ => rfl) ?_
  rw [zr]
  refine ok_aload_n dX5_init_91 rfl rfl ?_
  refine ok_bipush (v := 77) dX5_init_92 (by decide) ?_
  refine ok_newI (N := 77) (b' := (0, 0)) dX5_init_94 w_138 (by decide) (by decide) (by decide) (show 61 < 1000 by decide) rfl rfl ?_
  rw [zb, zn]
  refine ok_putRF dX5_init_96 f_X5_44 (isZ (by decide) (by simp [bK, hK]) (by decide)) rfl rfl rfl rfl (fun _ => rfl) (fun _ => rfl) ?_
  refine ok_return dX5_init_99 rfl ?_
  rw [zr]
  exact C
/-- the heap when both stand -/
def hZ : Hp := Zh (R5 (bR 49 (R4 (bR 0 (fun _ _ => none))))) (K5 (bK 49 5 0 (K4 (bK 0 4 0 (fun _ => (99, 0)))))) 62
theorem rf_bd {a k r : Nat} (h : rfF a k = some r) : a < 62 ∧ k < 22 := by
  by_cases c1 : a < 62
  · by_cases c2 : k < 22
    · exact ⟨c1, c2⟩
    · exfalso
      have e : ∀ x, x < 22 → ¬ k = x := fun x hx => by omega
      simp [rfF, e 0 (by decide), e 1 (by decide), e 2 (by decide), e 3 (by decide), e 5 (by decide), e 6 (by decide), e 7 (by decide), e 14 (by decide), e 15 (by decide), e 16 (by decide), e 17 (by decide), e 18 (by decide), e 19 (by decide)] at h
  · exfalso
    have e : ∀ x, x < 62 → ¬ a = x := fun x hx => by omega
    simp [rfF, e 0 (by decide), e 2 (by decide), e 14 (by decide), e 26 (by decide), e 38 (by decide), e 40 (by decide), e 41 (by decide), e 43 (by decide), e 45 (by decide), e 47 (by decide), e 49 (by decide)] at h
theorem hZ_rf : ∀ a, a < 62 → ∀ k, k < 22 → (rfF a k = none ∨ hR hZ a k = rfF a k) := by decide +kernel
theorem hZ_sq : ∀ q, q < 27 → (q = 2 ∨ q = 14 ∨ q = 26) → ∀ j, j < 10 → hR hZ (q + 1) j = some (q + 2 + j) := by decide +kernel
theorem hZ_sr {q : Nat} (hq : Sqr q) : SqR (hR hZ) q := by
  have h27 : q < 27 := by rcases hq with rfl | rfl | rfl <;> decide
  refine ⟨fun j hj => ⟨q + 2 + j, hZ_sq q h27 hq j hj, by omega, by omega⟩, fun i j hi hj e => ?_⟩
  rw [hZ_sq q h27 hq i hi, hZ_sq q h27 hq j hj] at e
  have := Option.some.inj e
  omega
theorem hZ_inv : Inv hZ := by
  refine ⟨by decide +kernel, rfl, fun a k r h => ?_, hZ_sr (Or.inl rfl), hZ_sr (Or.inr (Or.inl rfl)), hZ_sr (Or.inr (Or.inr rfl))⟩
  obtain ⟨h1, h2⟩ := rf_bd h
  rcases hZ_rf a h1 k h2 with e | e
  · rw [e] at h; cases h
  · exact e.trans h
theorem hZ_i (a k : Nat) : hI hZ a k = 0 := rfl
theorem hZ_l (a k : Nat) : hL hZ a k = 0 := rfl
