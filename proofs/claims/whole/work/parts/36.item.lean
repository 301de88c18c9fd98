/-! ===== the text: items ===== -/
/-- whether it went well, the token looked at, the row -/
abbrev Rs : Type := Bool × Nat × Nat × (Nat → Int32)
def i_no (k : Nat) : Rs := (false, k, 0, fun _ => 0)
def i_coins (T : Nat → Nat) (z k n : Nat) (r : Nat → Int32) : Rs := if num T z (tB T z k) 1000 = true then (true, tB T z (tB T z k), n, w_set r 1 (nI (tN T z (tB T z k)))) else i_no (tB T z k)
def i_law (T : Nat → Nat) (z k n : Nat) (r : Nat → Int32) : Rs := if num T z (tB T z k) 3 = true then (true, tB T z (tB T z k), n, w_set r 2 (nI (tN T z (tB T z k)))) else i_no (tB T z k)
def i_dv (T : Nat → Nat) (z n : Nat) (r : Nat → Int32) (neg : Bool) (k : Nat) : Rs := if num T z k 21 = true then (true, tB T z k, n, w_div r 1 (if neg = true then -(nI (tN T z k)) else nI (tN T z k))) else i_no k
def i_diver (T : Nat → Nat) (z k n : Nat) (r : Nat → Int32) : Rs := if wis T z (tB T z k) 12 = true then (if tT T z (tB T z (tB T z k)) = 4 then i_dv T z n r true (tB T z (tB T z (tB T z k))) else i_dv T z n r false (tB T z (tB T z k))) else (true, tB T z k, n, w_div r 1 0)
def i_sil (T : Nat → Nat) (z k n : Nat) (r : Nat → Int32) : Rs := (true, tB T z k, n, w_div r 0 0)
def i_swap (T : Nat → Nat) (z k n : Nat) (r : Nat → Int32) : Rs := if num T z (tB T z k) n = true then (if num T z (tB T z (tB T z k)) n = true then (if tN T z (tB T z (tB T z k)) = tN T z (tB T z k) then i_no (tB T z (tB T z k)) else (true, tB T z (tB T z (tB T z k)), n, w_pm r (sw (tN T z (tB T z k)) (tN T z (tB T z (tB T z k)))))) else i_no (tB T z (tB T z k))) else i_no (tB T z k)
/-- a number behind a word, if that is there -/
def i_opt (T : Nat → Nat) (z i M d k : Nat) : Bool × Nat × Nat := if wis T z k i = true then (if num T z (tB T z k) M = true then (true, tB T z (tB T z k), tN T z (tB T z k)) else (false, tB T z k, 0)) else (true, k, d)
def up1 (v : Nat → Int32) (f : Nat) (x : Int32) : Nat → Int32 := fun j => if j = f then x else v j
def i_o3 (T : Nat → Nat) (z n : Nat) (r v : Nat → Int32) (o : Bool × Nat × Nat) : Rs := if o.1 = true then (true, o.2.1, n + 1, w_join r n (up1 v 3 (nI o.2.2))) else i_no o.2.1
def i_o2 (T : Nat → Nat) (z n : Nat) (r v : Nat → Int32) (o : Bool × Nat × Nat) : Rs := if o.1 = true then i_o3 T z n r (up1 v 2 (nI o.2.2)) (i_opt T z 8 100 0 o.2.1) else i_no o.2.1
def i_o1 (T : Nat → Nat) (z n : Nat) (r v : Nat → Int32) (o : Bool × Nat × Nat) : Rs := if o.1 = true then i_o2 T z n r (up1 v 1 (nI o.2.2)) (i_opt T z 7 100 3 o.2.1) else i_no o.2.1
def i_pers (T : Nat → Nat) (z k n : Nat) (r : Nat → Int32) (kind : Int32) : Rs := if n < 10 then i_o1 T z n r (arrV0 kind) (i_opt T z 6 1000 5 (tB T z k)) else i_no k
def i_item (T : Nat → Nat) (z k n : Nat) (r : Nat → Int32) : Rs :=
  if tT T z k = 1 then (if kn T z k = -1 then (if wis T z k 9 = true then i_coins T z k n r else if wis T z k 10 = true then i_law T z k n r else if wis T z k 11 = true then i_diver T z k n r else if wis T z k 13 = true then i_sil T z k n r else if wis T z k 14 = true then i_swap T z k n r else i_no k) else i_pers T z k n r (kn T z k)) else i_no k
/-- what stays while the text is read -/
def FQ (h0 h : Hp) : Prop := h.2.1 = h0.2.1 ∧ h.2.2.2 = h0.2.2.2 ∧ (∀ a, (a < 14 ∨ 26 ≤ a) → h.2.2.1 a = h0.2.2.1 a ∧ (a ≠ 38 → h.1 a = h0.1 a)) ∧ h.1 38 1 = h0.1 38 1
theorem FQ.rf {h : Hp} : FQ h h := ⟨rfl, rfl, fun _ _ => ⟨rfl, fun _ => rfl⟩, rfl⟩
theorem FQ.ft {h0 h h' : Hp} (Q : FQ h0 h) (F : FT h h') : FQ h0 h' := ⟨by rw [F.1]; exact Q.1, by rw [F.1]; exact Q.2.1, fun a ha => ⟨by rw [F.1]; exact (Q.2.2.1 a ha).1, fun h38 => (F.2.1 a h38).trans ((Q.2.2.1 a ha).2 h38)⟩, F.2.2.trans Q.2.2.2⟩
theorem FQ.fr {h0 h h' : Hp} (Q : FQ h0 h) (F : Fr 14 h h') : FQ h0 h' := ⟨F.1.trans Q.1, F.2.1.trans Q.2.1, fun a ha => ⟨(F.2.2 a ha).2.trans (Q.2.2.1 a ha).1, fun h38 => (F.2.2 a ha).1.trans ((Q.2.2.1 a ha).2 h38)⟩, by rw [(F.2.2 38 (by decide)).1]; exact Q.2.2.2⟩
theorem BT.fr {h h' : Hp} {T : Nat → Nat} {z : Nat} (B : BT h T z) (F : Fr 14 h h') : BT h' T z := ⟨B.1, by show h'.1 38 1 = _; rw [(F.2.2 38 (by decide)).1]; exact B.2.1, B.2.2.1, fun i hi => by show h'.1 39 i = _; rw [(F.2.2 39 (by decide)).1]; exact B.2.2.2 i hi⟩
theorem Tok.fr {h h' : Hp} {T : Nat → Nat} {z k : Nat} (B : Tok h T z k) (F : Fr 14 h h') : Tok h' T z k := by
  have e : h'.1 38 = h.1 38 := (F.2.2 38 (by decide)).1
  unfold Tok hI
  rw [e]
  exact B
theorem pn_ft {h h' : Hp} {q j : Nat} (F : FT h h') : pn h' q j = pn h q j := by unfold pn hR; rw [F.1]
theorem Rep.ft {h h' : Hp} {q n : Nat} {r : Nat → Int32} (R : Rep h q n r) (hv : Inv h) (hq : Sqr q) (F : FT h h') : Rep h' q n r := by
  obtain ⟨h1, h2, h3, h4, h5⟩ := R
  have q38 : q < 38 := by rcases hq with rfl | rfl | rfl <;> decide
  have eo : h'.1 q = h.1 q := F.2.1 q (by omega)
  refine ⟨h1, h2, by show h'.1 q 6 = _; rw [eo]; exact h3, fun k hk => by show h'.1 q k = _; rw [eo]; exact h4 k hk, fun p f hp hf => ?_⟩
  have hi := pn_in hv hq (j := p) (by omega)
  show h'.1 (pn h' q p) f = _
  rw [pn_ft F, F.2.1 _ (by rcases hq with rfl | rfl | rfl <;> omega)]
  exact h5 p f hp hf
theorem join_up {r v : Nat → Int32} {n f : Nat} {x : Int32} (hf : f < 7) : w_set (w_join r n v) (7 + 7 * n + f) x = w_join r n (up1 v f x) := by
  funext j
  unfold w_set w_join up1
  by_cases e : j = 7 + 7 * n + f
  · rw [if_pos e, if_neg (by omega), if_pos (by omega), if_pos (by omega)]
  · rw [if_neg e]
    by_cases e0 : j = 0
    · rw [if_pos e0, if_pos e0]
    · rw [if_neg e0, if_neg e0]
      by_cases e1 : 7 + 7 * n ≤ j ∧ j < 14 + 7 * n
      · rw [if_pos e1, if_pos e1, if_neg (by omega)]
      · rw [if_neg e1, if_neg e1]
theorem up1_id {v : Nat → Int32} {f : Nat} {x : Int32} (e : v f = x) : up1 v f x = v := by
  funext j
  unfold up1
  by_cases c : j = f
  · rw [if_pos c, c, e]
  · rw [if_neg c]
theorem sp_X3_takeCoins {g : GG} {h0 h : Hp} {Post : Option Value → Hp → Prop} (X : Gx g) (hv : Inv h) {T : Nat → Nat} {z : Nat} (B : BT h T z) {k : Nat} (hk : k ≤ z) (Tk : Tok h T z k) {n : Nat} {r : Nat → Int32} (Rp : Rep h 14 n r) (Q : FQ h0 h) (K : ∀ h', FQ h0 h' → Inv h' → Tok h' T z (i_coins T z k n r).2.1 → ((i_coins T z k n r).1 = true → Rep h' 14 (i_coins T z k n r).2.2.1 (i_coins T z k n r).2.2.2) → Post (some (.int (if (i_coins T z k n r).1 = true then 1 else 0))) h') : Sp g mX3_takeCoins [.ref 38, .ref 14] h Post := by
  show Go g mX3_takeCoins 0 [_, _] [] _ _ _
  by_cases c : num T z (tB T z k) 1000 = true
  · rw [show i_coins T z k n r = _ from if_pos c] at K
    refine ok_aload_n dX3_takeCoins_0 rfl rfl ?_
    refine ok_callV (M' := mX3_look) (b' := (0, 0)) (As := []) (cx := 3) dX3_takeCoins_1 iX3_look w_556 (by decide) rfl (by first | exact is_lit hv (by decide) rfl | exact is_sq hv hq | exact is_row hv hq | exact is_pn hv hq (by assumption) | assumption) rfl (Nat.le_of_ble_eq_true rfl) ⟨Nat.le_of_ble_eq_true rfl, Nat.le_of_ble_eq_true rfl⟩ (Nat.le_of_ble_eq_true rfl) rfl rfl ?_
    refine sp_X3_look hv B (tB_le hk).2 Tk.2.2.1 (fun h1 F1 Tk => ?_)
    have hk := (tB_le (T := T) hk).2
    have Q := Q.ft F1
    have Rp := Rp.ft hv s14 F1
    have hv := F1.inv hv
    have B := F1.bt B
    refine ok_aload_n dX3_takeCoins_4 rfl rfl ?_
    refine ok_sipush (v := 999) dX3_takeCoins_5 (by decide) ?_
    refine ok_callV (M' := mX3_isNumber) (b' := (0, 0)) (As := [_]) (cx := 3) dX3_takeCoins_8 iX3_isNumber w_645 (by decide) rfl (by first | exact is_lit hv (by decide) rfl | exact is_sq hv hq | exact is_row hv hq | exact is_pn hv hq (by assumption) | assumption) rfl (Nat.le_of_ble_eq_true rfl) ⟨Nat.le_of_ble_eq_true rfl, Nat.le_of_ble_eq_true rfl⟩ (Nat.le_of_ble_eq_true rfl) rfl rfl ?_
    refine sp_X3_isNumber hv B hk Tk (M := 1000) (by decide) rfl ?_
    refine ok_if_ne (tgt := 16) dX3_takeCoins_11 (by decide) (fun _ => ?_) (fun c9 => absurd c9 (by rw [if_pos c]; decide))
    refine ok_aload_n dX3_takeCoins_16 rfl rfl ?_
    refine ok_aload_n dX3_takeCoins_17 rfl rfl ?_
    refine ok_callV (M' := mX3_takeNumber) (b' := (0, 0)) (As := []) (cx := 3) dX3_takeCoins_18 iX3_takeNumber w_649 (by decide) rfl (by first | exact is_lit hv (by decide) rfl | exact is_sq hv hq | exact is_row hv hq | exact is_pn hv hq (by assumption) | assumption) rfl (Nat.le_of_ble_eq_true rfl) ⟨Nat.le_of_ble_eq_true rfl, Nat.le_of_ble_eq_true rfl⟩ (Nat.le_of_ble_eq_true rfl) rfl rfl ?_
    refine sp_X3_takeNumber hv B hk Tk (of_decide_eq_true c).1 (fun h1 F1 Tk => ?_)
    have hk := (tB_le (T := T) hk).2
    have Q := Q.ft F1
    have Rp := Rp.ft hv s14 F1
    have hv := F1.inv hv
    have B := F1.bt B
    refine ok_putI dX3_takeCoins_21 f_X3_110 (is_sq hv s14) rfl rfl rfl rfl ?_
    refine ok_iconst (v := 1) dX3_takeCoins_24 (by decide) ?_
    refine ok_ireturn dX3_takeCoins_25 rfl rfl ?_
    exact K _ (Q.fr (Fr.rf.u (by decide) (by decide))) hv (Tk.fr (Fr.rf.u (by decide) (by decide))) (fun _ => rep_uS hv s14 (by decide) Rp)
  · rw [show i_coins T z k n r = _ from if_neg c] at K
    refine ok_aload_n dX3_takeCoins_0 rfl rfl ?_
    refine ok_callV (M' := mX3_look) (b' := (0, 0)) (As := []) (cx := 3) dX3_takeCoins_1 iX3_look w_556 (by decide) rfl (by first | exact is_lit hv (by decide) rfl | exact is_sq hv hq | exact is_row hv hq | exact is_pn hv hq (by assumption) | assumption) rfl (Nat.le_of_ble_eq_true rfl) ⟨Nat.le_of_ble_eq_true rfl, Nat.le_of_ble_eq_true rfl⟩ (Nat.le_of_ble_eq_true rfl) rfl rfl ?_
    refine sp_X3_look hv B (tB_le hk).2 Tk.2.2.1 (fun h1 F1 Tk => ?_)
    have hk := (tB_le (T := T) hk).2
    have Q := Q.ft F1
    have Rp := Rp.ft hv s14 F1
    have hv := F1.inv hv
    have B := F1.bt B
    refine ok_aload_n dX3_takeCoins_4 rfl rfl ?_
    refine ok_sipush (v := 999) dX3_takeCoins_5 (by decide) ?_
    refine ok_callV (M' := mX3_isNumber) (b' := (0, 0)) (As := [_]) (cx := 3) dX3_takeCoins_8 iX3_isNumber w_645 (by decide) rfl (by first | exact is_lit hv (by decide) rfl | exact is_sq hv hq | exact is_row hv hq | exact is_pn hv hq (by assumption) | assumption) rfl (Nat.le_of_ble_eq_true rfl) ⟨Nat.le_of_ble_eq_true rfl, Nat.le_of_ble_eq_true rfl⟩ (Nat.le_of_ble_eq_true rfl) rfl rfl ?_
    refine sp_X3_isNumber hv B hk Tk (M := 1000) (by decide) rfl ?_
    refine ok_if_ne (tgt := 16) dX3_takeCoins_11 (by decide) (fun c9 => absurd c9 (by rw [if_neg c]; exact fun c => c rfl)) (fun _ => ?_)
    refine ok_iconst (v := 0) dX3_takeCoins_14 (by decide) ?_
    refine ok_ireturn dX3_takeCoins_15 rfl rfl ?_
    exact K _ Q hv Tk (fun c => absurd c Bool.false_ne_true)
theorem sp_X3_takeLaw {g : GG} {h0 h : Hp} {Post : Option Value → Hp → Prop} (X : Gx g) (hv : Inv h) {T : Nat → Nat} {z : Nat} (B : BT h T z) {k : Nat} (hk : k ≤ z) (Tk : Tok h T z k) {n : Nat} {r : Nat → Int32} (Rp : Rep h 14 n r) (Q : FQ h0 h) (K : ∀ h', FQ h0 h' → Inv h' → Tok h' T z (i_law T z k n r).2.1 → ((i_law T z k n r).1 = true → Rep h' 14 (i_law T z k n r).2.2.1 (i_law T z k n r).2.2.2) → Post (some (.int (if (i_law T z k n r).1 = true then 1 else 0))) h') : Sp g mX3_takeLaw [.ref 38, .ref 14] h Post := by
  show Go g mX3_takeLaw 0 [_, _] [] _ _ _
  by_cases c : num T z (tB T z k) 3 = true
  · rw [show i_law T z k n r = _ from if_pos c] at K
    refine ok_aload_n dX3_takeLaw_0 rfl rfl ?_
    refine ok_callV (M' := mX3_look) (b' := (0, 0)) (As := []) (cx := 3) dX3_takeLaw_1 iX3_look w_556 (by decide) rfl (by first | exact is_lit hv (by decide) rfl | exact is_sq hv hq | exact is_row hv hq | exact is_pn hv hq (by assumption) | assumption) rfl (Nat.le_of_ble_eq_true rfl) ⟨Nat.le_of_ble_eq_true rfl, Nat.le_of_ble_eq_true rfl⟩ (Nat.le_of_ble_eq_true rfl) rfl rfl ?_
    refine sp_X3_look hv B (tB_le hk).2 Tk.2.2.1 (fun h1 F1 Tk => ?_)
    have hk := (tB_le (T := T) hk).2
    have Q := Q.ft F1
    have Rp := Rp.ft hv s14 F1
    have hv := F1.inv hv
    have B := F1.bt B
    refine ok_aload_n dX3_takeLaw_4 rfl rfl ?_
    refine ok_iconst (v := 2) dX3_takeLaw_5 (by decide) ?_
    refine ok_callV (M' := mX3_isNumber) (b' := (0, 0)) (As := [_]) (cx := 3) dX3_takeLaw_6 iX3_isNumber w_645 (by decide) rfl (by first | exact is_lit hv (by decide) rfl | exact is_sq hv hq | exact is_row hv hq | exact is_pn hv hq (by assumption) | assumption) rfl (Nat.le_of_ble_eq_true rfl) ⟨Nat.le_of_ble_eq_true rfl, Nat.le_of_ble_eq_true rfl⟩ (Nat.le_of_ble_eq_true rfl) rfl rfl ?_
    refine sp_X3_isNumber hv B hk Tk (M := 3) (by decide) rfl ?_
    refine ok_if_ne (tgt := 14) dX3_takeLaw_9 (by decide) (fun _ => ?_) (fun c9 => absurd c9 (by rw [if_pos c]; decide))
    refine ok_aload_n dX3_takeLaw_14 rfl rfl ?_
    refine ok_aload_n dX3_takeLaw_15 rfl rfl ?_
    refine ok_callV (M' := mX3_takeNumber) (b' := (0, 0)) (As := []) (cx := 3) dX3_takeLaw_16 iX3_takeNumber w_649 (by decide) rfl (by first | exact is_lit hv (by decide) rfl | exact is_sq hv hq | exact is_row hv hq | exact is_pn hv hq (by assumption) | assumption) rfl (Nat.le_of_ble_eq_true rfl) ⟨Nat.le_of_ble_eq_true rfl, Nat.le_of_ble_eq_true rfl⟩ (Nat.le_of_ble_eq_true rfl) rfl rfl ?_
    refine sp_X3_takeNumber hv B hk Tk (of_decide_eq_true c).1 (fun h1 F1 Tk => ?_)
    have hk := (tB_le (T := T) hk).2
    have Q := Q.ft F1
    have Rp := Rp.ft hv s14 F1
    have hv := F1.inv hv
    have B := F1.bt B
    refine ok_putI dX3_takeLaw_19 f_X3_112 (is_sq hv s14) rfl rfl rfl rfl ?_
    refine ok_iconst (v := 1) dX3_takeLaw_22 (by decide) ?_
    refine ok_ireturn dX3_takeLaw_23 rfl rfl ?_
    exact K _ (Q.fr (Fr.rf.u (by decide) (by decide))) hv (Tk.fr (Fr.rf.u (by decide) (by decide))) (fun _ => rep_uS hv s14 (by decide) Rp)
  · rw [show i_law T z k n r = _ from if_neg c] at K
    refine ok_aload_n dX3_takeLaw_0 rfl rfl ?_
    refine ok_callV (M' := mX3_look) (b' := (0, 0)) (As := []) (cx := 3) dX3_takeLaw_1 iX3_look w_556 (by decide) rfl (by first | exact is_lit hv (by decide) rfl | exact is_sq hv hq | exact is_row hv hq | exact is_pn hv hq (by assumption) | assumption) rfl (Nat.le_of_ble_eq_true rfl) ⟨Nat.le_of_ble_eq_true rfl, Nat.le_of_ble_eq_true rfl⟩ (Nat.le_of_ble_eq_true rfl) rfl rfl ?_
    refine sp_X3_look hv B (tB_le hk).2 Tk.2.2.1 (fun h1 F1 Tk => ?_)
    have hk := (tB_le (T := T) hk).2
    have Q := Q.ft F1
    have Rp := Rp.ft hv s14 F1
    have hv := F1.inv hv
    have B := F1.bt B
    refine ok_aload_n dX3_takeLaw_4 rfl rfl ?_
    refine ok_iconst (v := 2) dX3_takeLaw_5 (by decide) ?_
    refine ok_callV (M' := mX3_isNumber) (b' := (0, 0)) (As := [_]) (cx := 3) dX3_takeLaw_6 iX3_isNumber w_645 (by decide) rfl (by first | exact is_lit hv (by decide) rfl | exact is_sq hv hq | exact is_row hv hq | exact is_pn hv hq (by assumption) | assumption) rfl (Nat.le_of_ble_eq_true rfl) ⟨Nat.le_of_ble_eq_true rfl, Nat.le_of_ble_eq_true rfl⟩ (Nat.le_of_ble_eq_true rfl) rfl rfl ?_
    refine sp_X3_isNumber hv B hk Tk (M := 3) (by decide) rfl ?_
    refine ok_if_ne (tgt := 14) dX3_takeLaw_9 (by decide) (fun c9 => absurd c9 (by rw [if_neg c]; exact fun c => c rfl)) (fun _ => ?_)
    refine ok_iconst (v := 0) dX3_takeLaw_12 (by decide) ?_
    refine ok_ireturn dX3_takeLaw_13 rfl rfl ?_
    exact K _ Q hv Tk (fun c => absurd c Bool.false_ne_true)
theorem lp_X3_takeDiver_47 {g : GG} {h0 h : Hp} {Post : Option Value → Hp → Prop} (X : Gx g) (hv : Inv h) {T : Nat → Nat} {z : Nat} (B : BT h T z) {k : Nat} (hk : k ≤ z) (Tk : Tok h T z k) {n : Nat} {r : Nat → Int32} {r0 : Nat → Int32} (Rp : Rep h 14 n r0) (er : ∀ l, w_div r0 1 l = w_div r 1 l) (Q : FQ h0 h) (neg : Bool) (K : ∀ h', FQ h0 h' → Inv h' → Tok h' T z (i_dv T z n r neg k).2.1 → ((i_dv T z n r neg k).1 = true → Rep h' 14 (i_dv T z n r neg k).2.2.1 (i_dv T z n r neg k).2.2.2) → Post (some (.int (if (i_dv T z n r neg k).1 = true then 1 else 0))) h') : Go g mX3_takeDiver 47 [some (.ref 38), some (.ref 14), some (.int (if neg = true then 1 else 0)), none] [] h (0, 0) Post := by
  by_cases c : num T z k 21 = true
  · rw [show i_dv T z n r neg k = _ from if_pos c] at K
    cases neg with
    | false =>
      refine ok_aload_n dX3_takeDiver_47 rfl rfl ?_
      refine ok_bipush (v := 20) dX3_takeDiver_48 (by decide) ?_
      refine ok_callV (M' := mX3_isNumber) (b' := (0, 0)) (As := [_]) (cx := 3) dX3_takeDiver_50 iX3_isNumber w_645 (by decide) rfl (by first | exact is_lit hv (by decide) rfl | exact is_sq hv hq | exact is_row hv hq | exact is_pn hv hq (by assumption) | assumption) rfl (Nat.le_of_ble_eq_true rfl) ⟨Nat.le_of_ble_eq_true rfl, Nat.le_of_ble_eq_true rfl⟩ (Nat.le_of_ble_eq_true rfl) rfl rfl ?_
      refine sp_X3_isNumber hv B hk Tk (M := 21) (by decide) rfl ?_
      refine ok_if_ne (tgt := 58) dX3_takeDiver_53 (by decide) (fun _ => ?_) (fun c9 => absurd c9 (by rw [if_pos c]; decide))
      refine ok_aload_n dX3_takeDiver_58 rfl rfl ?_
      refine ok_callV (M' := mX3_takeNumber) (b' := (0, 0)) (As := []) (cx := 3) dX3_takeDiver_59 iX3_takeNumber w_649 (by decide) rfl (by first | exact is_lit hv (by decide) rfl | exact is_sq hv hq | exact is_row hv hq | exact is_pn hv hq (by assumption) | assumption) rfl (Nat.le_of_ble_eq_true rfl) ⟨Nat.le_of_ble_eq_true rfl, Nat.le_of_ble_eq_true rfl⟩ (Nat.le_of_ble_eq_true rfl) rfl rfl ?_
      refine sp_X3_takeNumber hv B hk Tk (of_decide_eq_true c).1 (fun h1 F1 Tk => ?_)
      have hk := (tB_le (T := T) hk).2
      have Q := Q.ft F1
      have Rp := Rp.ft hv s14 F1
      have hv := F1.inv hv
      have B := F1.bt B
      refine ok_istore_n (lo' := [_, _, _, _]) dX3_takeDiver_62 rfl (Nat.le_of_ble_eq_true rfl) rfl rfl ?_
      refine ok_aload_n dX3_takeDiver_63 rfl rfl ?_
      refine ok_iconst (v := 1) dX3_takeDiver_64 (by decide) ?_
      refine ok_iload_n dX3_takeDiver_65 rfl rfl ?_
      refine ok_if_eq (tgt := 74) dX3_takeDiver_66 (by decide) (fun _ => ?_) (fun c9 => absurd rfl c9)
      refine ok_iload_n dX3_takeDiver_74 rfl rfl ?_
      refine ok_callV (M' := mX2_hear) (b' := (0, 0)) (As := [_, _]) (cx := 2) dX3_takeDiver_75 iX2_hear w_670 (by decide) rfl (by first | exact is_lit hv (by decide) rfl | exact is_sq hv hq | exact is_row hv hq | exact is_pn hv hq (by assumption) | assumption) rfl (Nat.le_of_ble_eq_true rfl) ⟨Nat.le_of_ble_eq_true rfl, Nat.le_of_ble_eq_true rfl⟩ (Nat.le_of_ble_eq_true rfl) rfl rfl ?_
      refine sp_X2_hear hv s14 (Or.inr rfl) _ ?_
      refine ok_iconst (v := 1) dX3_takeDiver_78 (by decide) ?_
      refine ok_ireturn dX3_takeDiver_79 rfl rfl ?_
      refine K _ (Q.fr ((Fr.rf.u (q := 14) (by decide) (by decide)).u (by decide) (by decide))) hv (Tk.fr ((Fr.rf.u (q := 14) (by decide) (by decide)).u (by decide) (by decide))) (fun _ => ?_)
      show Rep _ 14 n (w_div r 1 _)
      rw [← er]
      exact rep_uS hv s14 (by decide : 3 < 6) (rep_uS hv s14 (by decide : 2 < 6) Rp)
    | true =>
      refine ok_aload_n dX3_takeDiver_47 rfl rfl ?_
      refine ok_bipush (v := 20) dX3_takeDiver_48 (by decide) ?_
      refine ok_callV (M' := mX3_isNumber) (b' := (0, 0)) (As := [_]) (cx := 3) dX3_takeDiver_50 iX3_isNumber w_645 (by decide) rfl (by first | exact is_lit hv (by decide) rfl | exact is_sq hv hq | exact is_row hv hq | exact is_pn hv hq (by assumption) | assumption) rfl (Nat.le_of_ble_eq_true rfl) ⟨Nat.le_of_ble_eq_true rfl, Nat.le_of_ble_eq_true rfl⟩ (Nat.le_of_ble_eq_true rfl) rfl rfl ?_
      refine sp_X3_isNumber hv B hk Tk (M := 21) (by decide) rfl ?_
      refine ok_if_ne (tgt := 58) dX3_takeDiver_53 (by decide) (fun _ => ?_) (fun c9 => absurd c9 (by rw [if_pos c]; decide))
      refine ok_aload_n dX3_takeDiver_58 rfl rfl ?_
      refine ok_callV (M' := mX3_takeNumber) (b' := (0, 0)) (As := []) (cx := 3) dX3_takeDiver_59 iX3_takeNumber w_649 (by decide) rfl (by first | exact is_lit hv (by decide) rfl | exact is_sq hv hq | exact is_row hv hq | exact is_pn hv hq (by assumption) | assumption) rfl (Nat.le_of_ble_eq_true rfl) ⟨Nat.le_of_ble_eq_true rfl, Nat.le_of_ble_eq_true rfl⟩ (Nat.le_of_ble_eq_true rfl) rfl rfl ?_
      refine sp_X3_takeNumber hv B hk Tk (of_decide_eq_true c).1 (fun h1 F1 Tk => ?_)
      have hk := (tB_le (T := T) hk).2
      have Q := Q.ft F1
      have Rp := Rp.ft hv s14 F1
      have hv := F1.inv hv
      have B := F1.bt B
      refine ok_istore_n (lo' := [_, _, _, _]) dX3_takeDiver_62 rfl (Nat.le_of_ble_eq_true rfl) rfl rfl ?_
      refine ok_aload_n dX3_takeDiver_63 rfl rfl ?_
      refine ok_iconst (v := 1) dX3_takeDiver_64 (by decide) ?_
      refine ok_iload_n dX3_takeDiver_65 rfl rfl ?_
      refine ok_if_eq (tgt := 74) dX3_takeDiver_66 (by decide) (fun c9 => absurd c9 (by decide)) (fun _ => ?_)
      refine ok_iload_n dX3_takeDiver_69 rfl rfl ?_
      refine ok_ineg dX3_takeDiver_70 ?_
      refine ok_goto (tgt := 75) dX3_takeDiver_71 (by decide) ?_
      refine ok_callV (M' := mX2_hear) (b' := (0, 0)) (As := [_, _]) (cx := 2) dX3_takeDiver_75 iX2_hear w_670 (by decide) rfl (by first | exact is_lit hv (by decide) rfl | exact is_sq hv hq | exact is_row hv hq | exact is_pn hv hq (by assumption) | assumption) rfl (Nat.le_of_ble_eq_true rfl) ⟨Nat.le_of_ble_eq_true rfl, Nat.le_of_ble_eq_true rfl⟩ (Nat.le_of_ble_eq_true rfl) rfl rfl ?_
      refine sp_X2_hear hv s14 (Or.inr rfl) _ ?_
      refine ok_iconst (v := 1) dX3_takeDiver_78 (by decide) ?_
      refine ok_ireturn dX3_takeDiver_79 rfl rfl ?_
      refine K _ (Q.fr ((Fr.rf.u (q := 14) (by decide) (by decide)).u (by decide) (by decide))) hv (Tk.fr ((Fr.rf.u (q := 14) (by decide) (by decide)).u (by decide) (by decide))) (fun _ => ?_)
      show Rep _ 14 n (w_div r 1 _)
      rw [← er]
      exact rep_uS hv s14 (by decide : 3 < 6) (rep_uS hv s14 (by decide : 2 < 6) Rp)
  · rw [show i_dv T z n r neg k = _ from if_neg c] at K
    refine ok_aload_n dX3_takeDiver_47 rfl rfl ?_
    refine ok_bipush (v := 20) dX3_takeDiver_48 (by decide) ?_
    refine ok_callV (M' := mX3_isNumber) (b' := (0, 0)) (As := [_]) (cx := 3) dX3_takeDiver_50 iX3_isNumber w_645 (by decide) rfl (by first | exact is_lit hv (by decide) rfl | exact is_sq hv hq | exact is_row hv hq | exact is_pn hv hq (by assumption) | assumption) rfl (Nat.le_of_ble_eq_true rfl) ⟨Nat.le_of_ble_eq_true rfl, Nat.le_of_ble_eq_true rfl⟩ (Nat.le_of_ble_eq_true rfl) rfl rfl ?_
    refine sp_X3_isNumber hv B hk Tk (M := 21) (by decide) rfl ?_
    refine ok_if_ne (tgt := 58) dX3_takeDiver_53 (by decide) (fun c9 => absurd c9 (by rw [if_neg c]; exact fun c => c rfl)) (fun _ => ?_)
    refine ok_iconst (v := 0) dX3_takeDiver_56 (by decide) ?_
    refine ok_ireturn dX3_takeDiver_57 rfl rfl ?_
    exact K _ Q hv Tk (fun c => absurd c Bool.false_ne_true)
theorem div_2 {r : Nat → Int32} {a b l : Int32} : w_div (w_set (w_set r (2 + 1) a) (3 + 1) b) 1 l = w_div r 1 l := by
  funext j
  by_cases e4 : j = 4 <;> by_cases e3 : j = 3 <;> simp [w_div, w_set, e4, e3]
theorem sp_X3_takeDiver {g : GG} {h0 h : Hp} {Post : Option Value → Hp → Prop} (X : Gx g) (hv : Inv h) {T : Nat → Nat} {z : Nat} (B : BT h T z) {k : Nat} (hk : k ≤ z) (Tk : Tok h T z k) {n : Nat} {r : Nat → Int32} (Rp : Rep h 14 n r) (Q : FQ h0 h) (K : ∀ h', FQ h0 h' → Inv h' → Tok h' T z (i_diver T z k n r).2.1 → ((i_diver T z k n r).1 = true → Rep h' 14 (i_diver T z k n r).2.2.1 (i_diver T z k n r).2.2.2) → Post (some (.int (if (i_diver T z k n r).1 = true then 1 else 0))) h') : Sp g mX3_takeDiver [.ref 38, .ref 14] h Post := by
  show Go g mX3_takeDiver 0 [_, _, _, _] [] _ _ _
  by_cases c : wis T z (tB T z k) 12 = true
  · rw [show i_diver T z k n r = _ from if_pos c] at K
    by_cases c4 : tT T z (tB T z (tB T z k)) = 4
    · rw [if_pos c4] at K
      refine ok_aload_n dX3_takeDiver_0 rfl rfl ?_
      refine ok_iconst (v := 1) dX3_takeDiver_1 (by decide) ?_
      refine ok_iconst (v := 0) dX3_takeDiver_2 (by decide) ?_
      refine ok_callV (M' := mX2_hear) (b' := (0, 0)) (As := [_, _]) (cx := 2) dX3_takeDiver_3 iX2_hear w_670 (by decide) rfl (by first | exact is_lit hv (by decide) rfl | exact is_sq hv hq | exact is_row hv hq | exact is_pn hv hq (by assumption) | assumption) rfl (Nat.le_of_ble_eq_true rfl) ⟨Nat.le_of_ble_eq_true rfl, Nat.le_of_ble_eq_true rfl⟩ (Nat.le_of_ble_eq_true rfl) rfl rfl ?_
      refine sp_X2_hear hv s14 (Or.inr rfl) _ ?_
      have FH : Fr 14 h (uI (uI h 14 2 1) 14 3 (if (1 : Int32) = 0 then 0 else 0)) := (Fr.rf.u (q := 14) (by decide) (by decide)).u (by decide) (by decide)
      have Q := Q.fr FH
      have Tk := Tk.fr FH
      have B := B.fr FH
      have Rp := rep_uS (h := uI h 14 2 1) (v := if (1 : Int32) = 0 then 0 else 0) hv s14 (by decide : 3 < 6) (rep_uS (v := 1) hv s14 (by decide : 2 < 6) Rp)
      have hv : Inv (uI (uI h 14 2 1) 14 3 (if (1 : Int32) = 0 then 0 else 0)) := hv
      refine ok_aload_n dX3_takeDiver_6 rfl rfl ?_
      refine ok_callV (M' := mX3_look) (b' := (0, 0)) (As := []) (cx := 3) dX3_takeDiver_7 iX3_look w_556 (by decide) rfl (by first | exact is_lit hv (by decide) rfl | exact is_sq hv hq | exact is_row hv hq | exact is_pn hv hq (by assumption) | assumption) rfl (Nat.le_of_ble_eq_true rfl) ⟨Nat.le_of_ble_eq_true rfl, Nat.le_of_ble_eq_true rfl⟩ (Nat.le_of_ble_eq_true rfl) rfl rfl ?_
      refine sp_X3_look hv B (tB_le hk).2 Tk.2.2.1 (fun h1 F1 Tk => ?_)
      have hk := (tB_le (T := T) hk).2
      have Q := Q.ft F1
      have Rp := Rp.ft hv s14 F1
      have hv := F1.inv hv
      have B := F1.bt B
      refine ok_aload_n dX3_takeDiver_10 rfl rfl ?_
      refine ok_ldcS (q := 3012) dX3_takeDiver_11 (fun U hU => (X U hU).2.2.2.1 12 (by decide)) ?_
      refine ok_callV (M' := mX3_isWord) (b' := (0, 0)) (As := [_]) (cx := 3) dX3_takeDiver_13 iX3_isWord w_587 (by decide) rfl (by first | exact is_lit hv (by decide) rfl | exact is_sq hv hq | exact is_row hv hq | exact is_pn hv hq (by assumption) | assumption) rfl (Nat.le_of_ble_eq_true rfl) ⟨Nat.le_of_ble_eq_true rfl, Nat.le_of_ble_eq_true rfl⟩ (Nat.le_of_ble_eq_true rfl) rfl rfl ?_
      refine sp_X3_isWord X (i := 12) (by decide) hv B hk Tk ?_
      refine ok_if_ne (tgt := 21) dX3_takeDiver_16 (by decide) (fun _ => ?_) (fun c9 => absurd c9 (by rw [if_pos c]; decide))
      refine ok_aload_n dX3_takeDiver_21 rfl rfl ?_
      refine ok_callV (M' := mX3_look) (b' := (0, 0)) (As := []) (cx := 3) dX3_takeDiver_22 iX3_look w_556 (by decide) rfl (by first | exact is_lit hv (by decide) rfl | exact is_sq hv hq | exact is_row hv hq | exact is_pn hv hq (by assumption) | assumption) rfl (Nat.le_of_ble_eq_true rfl) ⟨Nat.le_of_ble_eq_true rfl, Nat.le_of_ble_eq_true rfl⟩ (Nat.le_of_ble_eq_true rfl) rfl rfl ?_
      refine sp_X3_look hv B (tB_le hk).2 Tk.2.2.1 (fun h1 F1 Tk => ?_)
      have hk := (tB_le (T := T) hk).2
      have Q := Q.ft F1
      have Rp := Rp.ft hv s14 F1
      have hv := F1.inv hv
      have B := F1.bt B
      refine ok_aload_n dX3_takeDiver_25 rfl rfl ?_
      refine ok_getI dX3_takeDiver_26 f_X3_19 (is_lit hv (by decide) rfl) rfl ?_
      refine ok_iconst (v := 4) dX3_takeDiver_29 (by decide) ?_
      rw [Tk.1]
      refine ok_icmp_ne (tgt := 37) dX3_takeDiver_30 (by decide) (fun c9 => absurd c9 (by rw [c4]; decide)) (fun _ => ?_)
      refine ok_iconst (v := 1) dX3_takeDiver_33 (by decide) ?_
      refine ok_goto (tgt := 38) dX3_takeDiver_34 (by decide) ?_
      refine ok_istore_n (lo' := [_, _, _, _]) dX3_takeDiver_38 rfl (Nat.le_of_ble_eq_true rfl) rfl rfl ?_
      refine ok_iload_n dX3_takeDiver_39 rfl rfl ?_
      refine ok_if_eq (tgt := 47) dX3_takeDiver_40 (by decide) (fun c9 => absurd c9 (by decide)) (fun _ => ?_)
      refine ok_aload_n dX3_takeDiver_43 rfl rfl ?_
      refine ok_callV (M' := mX3_look) (b' := (0, 0)) (As := []) (cx := 3) dX3_takeDiver_44 iX3_look w_556 (by decide) rfl (by first | exact is_lit hv (by decide) rfl | exact is_sq hv hq | exact is_row hv hq | exact is_pn hv hq (by assumption) | assumption) rfl (Nat.le_of_ble_eq_true rfl) ⟨Nat.le_of_ble_eq_true rfl, Nat.le_of_ble_eq_true rfl⟩ (Nat.le_of_ble_eq_true rfl) rfl rfl ?_
      refine sp_X3_look hv B (tB_le hk).2 Tk.2.2.1 (fun h1 F1 Tk => ?_)
      have hk := (tB_le (T := T) hk).2
      have Q := Q.ft F1
      have Rp := Rp.ft hv s14 F1
      have hv := F1.inv hv
      have B := F1.bt B
      exact lp_X3_takeDiver_47 X hv B hk Tk Rp (fun l => div_2) Q true K
    · rw [if_neg c4] at K
      refine ok_aload_n dX3_takeDiver_0 rfl rfl ?_
      refine ok_iconst (v := 1) dX3_takeDiver_1 (by decide) ?_
      refine ok_iconst (v := 0) dX3_takeDiver_2 (by decide) ?_
      refine ok_callV (M' := mX2_hear) (b' := (0, 0)) (As := [_, _]) (cx := 2) dX3_takeDiver_3 iX2_hear w_670 (by decide) rfl (by first | exact is_lit hv (by decide) rfl | exact is_sq hv hq | exact is_row hv hq | exact is_pn hv hq (by assumption) | assumption) rfl (Nat.le_of_ble_eq_true rfl) ⟨Nat.le_of_ble_eq_true rfl, Nat.le_of_ble_eq_true rfl⟩ (Nat.le_of_ble_eq_true rfl) rfl rfl ?_
      refine sp_X2_hear hv s14 (Or.inr rfl) _ ?_
      have FH : Fr 14 h (uI (uI h 14 2 1) 14 3 (if (1 : Int32) = 0 then 0 else 0)) := (Fr.rf.u (q := 14) (by decide) (by decide)).u (by decide) (by decide)
      have Q := Q.fr FH
      have Tk := Tk.fr FH
      have B := B.fr FH
      have Rp := rep_uS (h := uI h 14 2 1) (v := if (1 : Int32) = 0 then 0 else 0) hv s14 (by decide : 3 < 6) (rep_uS (v := 1) hv s14 (by decide : 2 < 6) Rp)
      have hv : Inv (uI (uI h 14 2 1) 14 3 (if (1 : Int32) = 0 then 0 else 0)) := hv
      refine ok_aload_n dX3_takeDiver_6 rfl rfl ?_
      refine ok_callV (M' := mX3_look) (b' := (0, 0)) (As := []) (cx := 3) dX3_takeDiver_7 iX3_look w_556 (by decide) rfl (by first | exact is_lit hv (by decide) rfl | exact is_sq hv hq | exact is_row hv hq | exact is_pn hv hq (by assumption) | assumption) rfl (Nat.le_of_ble_eq_true rfl) ⟨Nat.le_of_ble_eq_true rfl, Nat.le_of_ble_eq_true rfl⟩ (Nat.le_of_ble_eq_true rfl) rfl rfl ?_
      refine sp_X3_look hv B (tB_le hk).2 Tk.2.2.1 (fun h1 F1 Tk => ?_)
      have hk := (tB_le (T := T) hk).2
      have Q := Q.ft F1
      have Rp := Rp.ft hv s14 F1
      have hv := F1.inv hv
      have B := F1.bt B
      refine ok_aload_n dX3_takeDiver_10 rfl rfl ?_
      refine ok_ldcS (q := 3012) dX3_takeDiver_11 (fun U hU => (X U hU).2.2.2.1 12 (by decide)) ?_
      refine ok_callV (M' := mX3_isWord) (b' := (0, 0)) (As := [_]) (cx := 3) dX3_takeDiver_13 iX3_isWord w_587 (by decide) rfl (by first | exact is_lit hv (by decide) rfl | exact is_sq hv hq | exact is_row hv hq | exact is_pn hv hq (by assumption) | assumption) rfl (Nat.le_of_ble_eq_true rfl) ⟨Nat.le_of_ble_eq_true rfl, Nat.le_of_ble_eq_true rfl⟩ (Nat.le_of_ble_eq_true rfl) rfl rfl ?_
      refine sp_X3_isWord X (i := 12) (by decide) hv B hk Tk ?_
      refine ok_if_ne (tgt := 21) dX3_takeDiver_16 (by decide) (fun _ => ?_) (fun c9 => absurd c9 (by rw [if_pos c]; decide))
      refine ok_aload_n dX3_takeDiver_21 rfl rfl ?_
      refine ok_callV (M' := mX3_look) (b' := (0, 0)) (As := []) (cx := 3) dX3_takeDiver_22 iX3_look w_556 (by decide) rfl (by first | exact is_lit hv (by decide) rfl | exact is_sq hv hq | exact is_row hv hq | exact is_pn hv hq (by assumption) | assumption) rfl (Nat.le_of_ble_eq_true rfl) ⟨Nat.le_of_ble_eq_true rfl, Nat.le_of_ble_eq_true rfl⟩ (Nat.le_of_ble_eq_true rfl) rfl rfl ?_
      refine sp_X3_look hv B (tB_le hk).2 Tk.2.2.1 (fun h1 F1 Tk => ?_)
      have hk := (tB_le (T := T) hk).2
      have Q := Q.ft F1
      have Rp := Rp.ft hv s14 F1
      have hv := F1.inv hv
      have B := F1.bt B
      refine ok_aload_n dX3_takeDiver_25 rfl rfl ?_
      refine ok_getI dX3_takeDiver_26 f_X3_19 (is_lit hv (by decide) rfl) rfl ?_
      refine ok_iconst (v := 4) dX3_takeDiver_29 (by decide) ?_
      rw [Tk.1]
      refine ok_icmp_ne (tgt := 37) dX3_takeDiver_30 (by decide) (fun _ => ?_) (fun c9 => absurd c9 (fun e => c4 ((nI_inj2 (b := 4) (by have := tT_le T z (tB T z (tB T z k)); omega) (by decide)).mp e)))
      refine ok_iconst (v := 0) dX3_takeDiver_37 (by decide) ?_
      refine ok_istore_n (lo' := [_, _, _, _]) dX3_takeDiver_38 rfl (Nat.le_of_ble_eq_true rfl) rfl rfl ?_
      refine ok_iload_n dX3_takeDiver_39 rfl rfl ?_
      refine ok_if_eq (tgt := 47) dX3_takeDiver_40 (by decide) (fun _ => ?_) (fun c9 => absurd rfl c9)
      exact lp_X3_takeDiver_47 X hv B hk Tk Rp (fun l => div_2) Q false K
  · rw [show i_diver T z k n r = _ from if_neg c] at K
    refine ok_aload_n dX3_takeDiver_0 rfl rfl ?_
    refine ok_iconst (v := 1) dX3_takeDiver_1 (by decide) ?_
    refine ok_iconst (v := 0) dX3_takeDiver_2 (by decide) ?_
    refine ok_callV (M' := mX2_hear) (b' := (0, 0)) (As := [_, _]) (cx := 2) dX3_takeDiver_3 iX2_hear w_670 (by decide) rfl (by first | exact is_lit hv (by decide) rfl | exact is_sq hv hq | exact is_row hv hq | exact is_pn hv hq (by assumption) | assumption) rfl (Nat.le_of_ble_eq_true rfl) ⟨Nat.le_of_ble_eq_true rfl, Nat.le_of_ble_eq_true rfl⟩ (Nat.le_of_ble_eq_true rfl) rfl rfl ?_
    refine sp_X2_hear hv s14 (Or.inr rfl) _ ?_
    have FH : Fr 14 h (uI (uI h 14 2 1) 14 3 (if (1 : Int32) = 0 then 0 else 0)) := (Fr.rf.u (q := 14) (by decide) (by decide)).u (by decide) (by decide)
    have Q := Q.fr FH
    have Tk := Tk.fr FH
    have B := B.fr FH
    have Rp := rep_uS (h := uI h 14 2 1) (v := if (1 : Int32) = 0 then 0 else 0) hv s14 (by decide : 3 < 6) (rep_uS (v := 1) hv s14 (by decide : 2 < 6) Rp)
    have hv : Inv (uI (uI h 14 2 1) 14 3 (if (1 : Int32) = 0 then 0 else 0)) := hv
    refine ok_aload_n dX3_takeDiver_6 rfl rfl ?_
    refine ok_callV (M' := mX3_look) (b' := (0, 0)) (As := []) (cx := 3) dX3_takeDiver_7 iX3_look w_556 (by decide) rfl (by first | exact is_lit hv (by decide) rfl | exact is_sq hv hq | exact is_row hv hq | exact is_pn hv hq (by assumption) | assumption) rfl (Nat.le_of_ble_eq_true rfl) ⟨Nat.le_of_ble_eq_true rfl, Nat.le_of_ble_eq_true rfl⟩ (Nat.le_of_ble_eq_true rfl) rfl rfl ?_
    refine sp_X3_look hv B (tB_le hk).2 Tk.2.2.1 (fun h1 F1 Tk => ?_)
    have hk := (tB_le (T := T) hk).2
    have Q := Q.ft F1
    have Rp := Rp.ft hv s14 F1
    have hv := F1.inv hv
    have B := F1.bt B
    refine ok_aload_n dX3_takeDiver_10 rfl rfl ?_
    refine ok_ldcS (q := 3012) dX3_takeDiver_11 (fun U hU => (X U hU).2.2.2.1 12 (by decide)) ?_
    refine ok_callV (M' := mX3_isWord) (b' := (0, 0)) (As := [_]) (cx := 3) dX3_takeDiver_13 iX3_isWord w_587 (by decide) rfl (by first | exact is_lit hv (by decide) rfl | exact is_sq hv hq | exact is_row hv hq | exact is_pn hv hq (by assumption) | assumption) rfl (Nat.le_of_ble_eq_true rfl) ⟨Nat.le_of_ble_eq_true rfl, Nat.le_of_ble_eq_true rfl⟩ (Nat.le_of_ble_eq_true rfl) rfl rfl ?_
    refine sp_X3_isWord X (i := 12) (by decide) hv B hk Tk ?_
    refine ok_if_ne (tgt := 21) dX3_takeDiver_16 (by decide) (fun c9 => absurd c9 (by rw [if_neg c]; exact fun c => c rfl)) (fun _ => ?_)
    refine ok_iconst (v := 1) dX3_takeDiver_19 (by decide) ?_
    refine ok_ireturn dX3_takeDiver_20 rfl rfl ?_
    exact K _ Q hv Tk (fun _ => Rp)
theorem fr_pm {h : Hp} {q : Nat} {π : Nat → Nat} : Fr q h (hpm h q π) := ⟨rfl, rfl, fun a ha => ⟨rfl, funext fun _ => if_neg (by omega)⟩⟩
theorem sp_X3_takeSwap {g : GG} {h0 h : Hp} {Post : Option Value → Hp → Prop} (X : Gx g) (hv : Inv h) {T : Nat → Nat} {z : Nat} (B : BT h T z) {k : Nat} (hk : k ≤ z) (Tk : Tok h T z k) {n : Nat} {r : Nat → Int32} (Rp : Rep h 14 n r) (Q : FQ h0 h) (K : ∀ h', FQ h0 h' → Inv h' → Tok h' T z (i_swap T z k n r).2.1 → ((i_swap T z k n r).1 = true → Rep h' 14 (i_swap T z k n r).2.2.1 (i_swap T z k n r).2.2.2) → Post (some (.int (if (i_swap T z k n r).1 = true then 1 else 0))) h') : Sp g mX3_takeSwap [.ref 38, .ref 14] h Post := by
  show Go g mX3_takeSwap 0 [_, _, _] [] _ _ _
  have hn := Rp.1
  by_cases c : num T z (tB T z k) n = true
  · rw [show i_swap T z k n r = _ from if_pos c] at K
    by_cases c2 : num T z (tB T z (tB T z k)) n = true
    · rw [if_pos c2] at K
      have l1 := (of_decide_eq_true c).2
      have l2 := (of_decide_eq_true c2).2
      by_cases c3 : tN T z (tB T z (tB T z k)) = tN T z (tB T z k)
      · rw [if_pos c3] at K
        refine ok_aload_n dX3_takeSwap_0 rfl rfl ?_
        refine ok_callV (M' := mX3_look) (b' := (0, 0)) (As := []) (cx := 3) dX3_takeSwap_1 iX3_look w_556 (by decide) rfl (by first | exact is_lit hv (by decide) rfl | exact is_sq hv hq | exact is_row hv hq | exact is_pn hv hq (by assumption) | assumption) rfl (Nat.le_of_ble_eq_true rfl) ⟨Nat.le_of_ble_eq_true rfl, Nat.le_of_ble_eq_true rfl⟩ (Nat.le_of_ble_eq_true rfl) rfl rfl ?_
        refine sp_X3_look hv B (tB_le hk).2 Tk.2.2.1 (fun h1 F1 Tk => ?_)
        have hk := (tB_le (T := T) hk).2
        have Q := Q.ft F1
        have Rp := Rp.ft hv s14 F1
        have hv := F1.inv hv
        have B := F1.bt B
        refine ok_aload_n dX3_takeSwap_4 rfl rfl ?_
        refine ok_aload_n dX3_takeSwap_5 rfl rfl ?_
        refine ok_getI dX3_takeSwap_6 f_X3_78 (is_sq hv s14) rfl ?_
        refine ok_iconst (v := 1) dX3_takeSwap_9 (by decide) ?_
        refine ok_isub dX3_takeSwap_10 ?_
        refine ok_callV (M' := mX3_isNumber) (b' := (0, 0)) (As := [_]) (cx := 3) dX3_takeSwap_11 iX3_isNumber w_645 (by decide) rfl (by first | exact is_lit hv (by decide) rfl | exact is_sq hv hq | exact is_row hv hq | exact is_pn hv hq (by assumption) | assumption) rfl (Nat.le_of_ble_eq_true rfl) ⟨Nat.le_of_ble_eq_true rfl, Nat.le_of_ble_eq_true rfl⟩ (Nat.le_of_ble_eq_true rfl) rfl rfl ?_
        refine sp_X3_isNumber hv B hk Tk (M := n) (by omega) (by rw [Rp.2.2.1]) ?_
        refine ok_if_ne (tgt := 19) dX3_takeSwap_14 (by decide) (fun _ => ?_) (fun c9 => absurd c9 (by rw [if_pos c]; decide))
        refine ok_aload_n dX3_takeSwap_19 rfl rfl ?_
        refine ok_callV (M' := mX3_takeNumber) (b' := (0, 0)) (As := []) (cx := 3) dX3_takeSwap_20 iX3_takeNumber w_649 (by decide) rfl (by first | exact is_lit hv (by decide) rfl | exact is_sq hv hq | exact is_row hv hq | exact is_pn hv hq (by assumption) | assumption) rfl (Nat.le_of_ble_eq_true rfl) ⟨Nat.le_of_ble_eq_true rfl, Nat.le_of_ble_eq_true rfl⟩ (Nat.le_of_ble_eq_true rfl) rfl rfl ?_
        refine sp_X3_takeNumber hv B hk Tk (of_decide_eq_true c).1 (fun h1 F1 Tk => ?_)
        have hk := (tB_le (T := T) hk).2
        have Q := Q.ft F1
        have Rp := Rp.ft hv s14 F1
        have hv := F1.inv hv
        have B := F1.bt B
        refine ok_istore_n (lo' := [_, _, _]) dX3_takeSwap_23 rfl (Nat.le_of_ble_eq_true rfl) rfl rfl ?_
        refine ok_aload_n dX3_takeSwap_24 rfl rfl ?_
        refine ok_aload_n dX3_takeSwap_25 rfl rfl ?_
        refine ok_getI dX3_takeSwap_26 f_X3_78 (is_sq hv s14) rfl ?_
        refine ok_iconst (v := 1) dX3_takeSwap_29 (by decide) ?_
        refine ok_isub dX3_takeSwap_30 ?_
        refine ok_callV (M' := mX3_isNumber) (b' := (0, 0)) (As := [_]) (cx := 3) dX3_takeSwap_31 iX3_isNumber w_645 (by decide) rfl (by first | exact is_lit hv (by decide) rfl | exact is_sq hv hq | exact is_row hv hq | exact is_pn hv hq (by assumption) | assumption) rfl (Nat.le_of_ble_eq_true rfl) ⟨Nat.le_of_ble_eq_true rfl, Nat.le_of_ble_eq_true rfl⟩ (Nat.le_of_ble_eq_true rfl) rfl rfl ?_
        refine sp_X3_isNumber hv B hk Tk (M := n) (by omega) (by rw [Rp.2.2.1]) ?_
        refine ok_if_eq (tgt := 45) dX3_takeSwap_34 (by decide) (fun c9 => absurd c9 (by rw [if_pos c2]; decide)) (fun _ => ?_)
        refine ok_aload_n dX3_takeSwap_37 rfl rfl ?_
        refine ok_getI dX3_takeSwap_38 f_X3_28 (is_lit hv (by decide) rfl) rfl ?_
        refine ok_iload_n dX3_takeSwap_41 rfl rfl ?_
        rw [Tk.2.2.2 (of_decide_eq_true c2).1]
        refine ok_icmp_ne (tgt := 47) dX3_takeSwap_42 (by decide) (fun c9 => absurd c9 (fun e => e (by rw [c3]))) (fun _ => ?_)
        refine ok_iconst (v := 0) dX3_takeSwap_45 (by decide) ?_
        refine ok_ireturn dX3_takeSwap_46 rfl rfl ?_
        exact K _ Q hv Tk (fun c => absurd c Bool.false_ne_true)
      · rw [if_neg c3] at K
        refine ok_aload_n dX3_takeSwap_0 rfl rfl ?_
        refine ok_callV (M' := mX3_look) (b' := (0, 0)) (As := []) (cx := 3) dX3_takeSwap_1 iX3_look w_556 (by decide) rfl (by first | exact is_lit hv (by decide) rfl | exact is_sq hv hq | exact is_row hv hq | exact is_pn hv hq (by assumption) | assumption) rfl (Nat.le_of_ble_eq_true rfl) ⟨Nat.le_of_ble_eq_true rfl, Nat.le_of_ble_eq_true rfl⟩ (Nat.le_of_ble_eq_true rfl) rfl rfl ?_
        refine sp_X3_look hv B (tB_le hk).2 Tk.2.2.1 (fun h1 F1 Tk => ?_)
        have hk := (tB_le (T := T) hk).2
        have Q := Q.ft F1
        have Rp := Rp.ft hv s14 F1
        have hv := F1.inv hv
        have B := F1.bt B
        refine ok_aload_n dX3_takeSwap_4 rfl rfl ?_
        refine ok_aload_n dX3_takeSwap_5 rfl rfl ?_
        refine ok_getI dX3_takeSwap_6 f_X3_78 (is_sq hv s14) rfl ?_
        refine ok_iconst (v := 1) dX3_takeSwap_9 (by decide) ?_
        refine ok_isub dX3_takeSwap_10 ?_
        refine ok_callV (M' := mX3_isNumber) (b' := (0, 0)) (As := [_]) (cx := 3) dX3_takeSwap_11 iX3_isNumber w_645 (by decide) rfl (by first | exact is_lit hv (by decide) rfl | exact is_sq hv hq | exact is_row hv hq | exact is_pn hv hq (by assumption) | assumption) rfl (Nat.le_of_ble_eq_true rfl) ⟨Nat.le_of_ble_eq_true rfl, Nat.le_of_ble_eq_true rfl⟩ (Nat.le_of_ble_eq_true rfl) rfl rfl ?_
        refine sp_X3_isNumber hv B hk Tk (M := n) (by omega) (by rw [Rp.2.2.1]) ?_
        refine ok_if_ne (tgt := 19) dX3_takeSwap_14 (by decide) (fun _ => ?_) (fun c9 => absurd c9 (by rw [if_pos c]; decide))
        refine ok_aload_n dX3_takeSwap_19 rfl rfl ?_
        refine ok_callV (M' := mX3_takeNumber) (b' := (0, 0)) (As := []) (cx := 3) dX3_takeSwap_20 iX3_takeNumber w_649 (by decide) rfl (by first | exact is_lit hv (by decide) rfl | exact is_sq hv hq | exact is_row hv hq | exact is_pn hv hq (by assumption) | assumption) rfl (Nat.le_of_ble_eq_true rfl) ⟨Nat.le_of_ble_eq_true rfl, Nat.le_of_ble_eq_true rfl⟩ (Nat.le_of_ble_eq_true rfl) rfl rfl ?_
        refine sp_X3_takeNumber hv B hk Tk (of_decide_eq_true c).1 (fun h1 F1 Tk => ?_)
        have hk := (tB_le (T := T) hk).2
        have Q := Q.ft F1
        have Rp := Rp.ft hv s14 F1
        have hv := F1.inv hv
        have B := F1.bt B
        refine ok_istore_n (lo' := [_, _, _]) dX3_takeSwap_23 rfl (Nat.le_of_ble_eq_true rfl) rfl rfl ?_
        refine ok_aload_n dX3_takeSwap_24 rfl rfl ?_
        refine ok_aload_n dX3_takeSwap_25 rfl rfl ?_
        refine ok_getI dX3_takeSwap_26 f_X3_78 (is_sq hv s14) rfl ?_
        refine ok_iconst (v := 1) dX3_takeSwap_29 (by decide) ?_
        refine ok_isub dX3_takeSwap_30 ?_
        refine ok_callV (M' := mX3_isNumber) (b' := (0, 0)) (As := [_]) (cx := 3) dX3_takeSwap_31 iX3_isNumber w_645 (by decide) rfl (by first | exact is_lit hv (by decide) rfl | exact is_sq hv hq | exact is_row hv hq | exact is_pn hv hq (by assumption) | assumption) rfl (Nat.le_of_ble_eq_true rfl) ⟨Nat.le_of_ble_eq_true rfl, Nat.le_of_ble_eq_true rfl⟩ (Nat.le_of_ble_eq_true rfl) rfl rfl ?_
        refine sp_X3_isNumber hv B hk Tk (M := n) (by omega) (by rw [Rp.2.2.1]) ?_
        refine ok_if_eq (tgt := 45) dX3_takeSwap_34 (by decide) (fun c9 => absurd c9 (by rw [if_pos c2]; decide)) (fun _ => ?_)
        refine ok_aload_n dX3_takeSwap_37 rfl rfl ?_
        refine ok_getI dX3_takeSwap_38 f_X3_28 (is_lit hv (by decide) rfl) rfl ?_
        refine ok_iload_n dX3_takeSwap_41 rfl rfl ?_
        rw [Tk.2.2.2 (of_decide_eq_true c2).1]
        refine ok_icmp_ne (tgt := 47) dX3_takeSwap_42 (by decide) (fun _ => ?_) (fun c9 => absurd c9 (fun e => c3 ((nI_inj2 (by omega) (by omega)).mp e)))
        refine ok_aload_n dX3_takeSwap_47 rfl rfl ?_
        refine ok_iload_n dX3_takeSwap_48 rfl rfl ?_
        refine ok_aload_n dX3_takeSwap_49 rfl rfl ?_
        refine ok_callV (M' := mX3_takeNumber) (b' := (0, 0)) (As := []) (cx := 3) dX3_takeSwap_50 iX3_takeNumber w_649 (by decide) rfl (by first | exact is_lit hv (by decide) rfl | exact is_sq hv hq | exact is_row hv hq | exact is_pn hv hq (by assumption) | assumption) rfl (Nat.le_of_ble_eq_true rfl) ⟨Nat.le_of_ble_eq_true rfl, Nat.le_of_ble_eq_true rfl⟩ (Nat.le_of_ble_eq_true rfl) rfl rfl ?_
        refine sp_X3_takeNumber hv B hk Tk (of_decide_eq_true c2).1 (fun h1 F1 Tk => ?_)
        have hk := (tB_le (T := T) hk).2
        have Q := Q.ft F1
        have Rp := Rp.ft hv s14 F1
        have hv := F1.inv hv
        have B := F1.bt B
        refine ok_callV (M' := mX2_swapPlaces) (b' := (0, 0)) (As := [_, _]) (cx := 2) dX3_takeSwap_53 iX2_swapPlaces w_678 (by decide) rfl (by first | exact is_lit hv (by decide) rfl | exact is_sq hv hq | exact is_row hv hq | exact is_pn hv hq (by assumption) | assumption) rfl (Nat.le_of_ble_eq_true rfl) ⟨Nat.le_of_ble_eq_true rfl, Nat.le_of_ble_eq_true rfl⟩ (Nat.le_of_ble_eq_true rfl) rfl rfl ?_
        refine sp_X2_swapPlaces hv s14 (by omega) (by omega) ?_
        refine ok_iconst (v := 1) dX3_takeSwap_56 (by decide) ?_
        refine ok_ireturn dX3_takeSwap_57 rfl rfl ?_
        have FP := fr_pm (h := h1) (q := 14) (π := sw (tN T z (tB T z k)) (tN T z (tB T z (tB T z k))))
        exact K _ (Q.fr FP) (inv_pm hv s14 (fun j hj => sw_lt (by omega) (by omega) hj) (fun i j _ _ e => sw_inj e)) (Tk.fr FP) (fun _ => rep_pm Rp (fun p hp => sw_lt l1 l2 hp))
    · rw [if_neg c2] at K
      refine ok_aload_n dX3_takeSwap_0 rfl rfl ?_
      refine ok_callV (M' := mX3_look) (b' := (0, 0)) (As := []) (cx := 3) dX3_takeSwap_1 iX3_look w_556 (by decide) rfl (by first | exact is_lit hv (by decide) rfl | exact is_sq hv hq | exact is_row hv hq | exact is_pn hv hq (by assumption) | assumption) rfl (Nat.le_of_ble_eq_true rfl) ⟨Nat.le_of_ble_eq_true rfl, Nat.le_of_ble_eq_true rfl⟩ (Nat.le_of_ble_eq_true rfl) rfl rfl ?_
      refine sp_X3_look hv B (tB_le hk).2 Tk.2.2.1 (fun h1 F1 Tk => ?_)
      have hk := (tB_le (T := T) hk).2
      have Q := Q.ft F1
      have Rp := Rp.ft hv s14 F1
      have hv := F1.inv hv
      have B := F1.bt B
      refine ok_aload_n dX3_takeSwap_4 rfl rfl ?_
      refine ok_aload_n dX3_takeSwap_5 rfl rfl ?_
      refine ok_getI dX3_takeSwap_6 f_X3_78 (is_sq hv s14) rfl ?_
      refine ok_iconst (v := 1) dX3_takeSwap_9 (by decide) ?_
      refine ok_isub dX3_takeSwap_10 ?_
      refine ok_callV (M' := mX3_isNumber) (b' := (0, 0)) (As := [_]) (cx := 3) dX3_takeSwap_11 iX3_isNumber w_645 (by decide) rfl (by first | exact is_lit hv (by decide) rfl | exact is_sq hv hq | exact is_row hv hq | exact is_pn hv hq (by assumption) | assumption) rfl (Nat.le_of_ble_eq_true rfl) ⟨Nat.le_of_ble_eq_true rfl, Nat.le_of_ble_eq_true rfl⟩ (Nat.le_of_ble_eq_true rfl) rfl rfl ?_
      refine sp_X3_isNumber hv B hk Tk (M := n) (by omega) (by rw [Rp.2.2.1]) ?_
      refine ok_if_ne (tgt := 19) dX3_takeSwap_14 (by decide) (fun _ => ?_) (fun c9 => absurd c9 (by rw [if_pos c]; decide))
      refine ok_aload_n dX3_takeSwap_19 rfl rfl ?_
      refine ok_callV (M' := mX3_takeNumber) (b' := (0, 0)) (As := []) (cx := 3) dX3_takeSwap_20 iX3_takeNumber w_649 (by decide) rfl (by first | exact is_lit hv (by decide) rfl | exact is_sq hv hq | exact is_row hv hq | exact is_pn hv hq (by assumption) | assumption) rfl (Nat.le_of_ble_eq_true rfl) ⟨Nat.le_of_ble_eq_true rfl, Nat.le_of_ble_eq_true rfl⟩ (Nat.le_of_ble_eq_true rfl) rfl rfl ?_
      refine sp_X3_takeNumber hv B hk Tk (of_decide_eq_true c).1 (fun h1 F1 Tk => ?_)
      have hk := (tB_le (T := T) hk).2
      have Q := Q.ft F1
      have Rp := Rp.ft hv s14 F1
      have hv := F1.inv hv
      have B := F1.bt B
      refine ok_istore_n (lo' := [_, _, _]) dX3_takeSwap_23 rfl (Nat.le_of_ble_eq_true rfl) rfl rfl ?_
      refine ok_aload_n dX3_takeSwap_24 rfl rfl ?_
      refine ok_aload_n dX3_takeSwap_25 rfl rfl ?_
      refine ok_getI dX3_takeSwap_26 f_X3_78 (is_sq hv s14) rfl ?_
      refine ok_iconst (v := 1) dX3_takeSwap_29 (by decide) ?_
      refine ok_isub dX3_takeSwap_30 ?_
      refine ok_callV (M' := mX3_isNumber) (b' := (0, 0)) (As := [_]) (cx := 3) dX3_takeSwap_31 iX3_isNumber w_645 (by decide) rfl (by first | exact is_lit hv (by decide) rfl | exact is_sq hv hq | exact is_row hv hq | exact is_pn hv hq (by assumption) | assumption) rfl (Nat.le_of_ble_eq_true rfl) ⟨Nat.le_of_ble_eq_true rfl, Nat.le_of_ble_eq_true rfl⟩ (Nat.le_of_ble_eq_true rfl) rfl rfl ?_
      refine sp_X3_isNumber hv B hk Tk (M := n) (by omega) (by rw [Rp.2.2.1]) ?_
      refine ok_if_eq (tgt := 45) dX3_takeSwap_34 (by decide) (fun _ => ?_) (fun c9 => absurd (if_neg c2) c9)
      refine ok_iconst (v := 0) dX3_takeSwap_45 (by decide) ?_
      refine ok_ireturn dX3_takeSwap_46 rfl rfl ?_
      exact K _ Q hv Tk (fun c => absurd c Bool.false_ne_true)
  · rw [show i_swap T z k n r = _ from if_neg c] at K
    refine ok_aload_n dX3_takeSwap_0 rfl rfl ?_
    refine ok_callV (M' := mX3_look) (b' := (0, 0)) (As := []) (cx := 3) dX3_takeSwap_1 iX3_look w_556 (by decide) rfl (by first | exact is_lit hv (by decide) rfl | exact is_sq hv hq | exact is_row hv hq | exact is_pn hv hq (by assumption) | assumption) rfl (Nat.le_of_ble_eq_true rfl) ⟨Nat.le_of_ble_eq_true rfl, Nat.le_of_ble_eq_true rfl⟩ (Nat.le_of_ble_eq_true rfl) rfl rfl ?_
    refine sp_X3_look hv B (tB_le hk).2 Tk.2.2.1 (fun h1 F1 Tk => ?_)
    have hk := (tB_le (T := T) hk).2
    have Q := Q.ft F1
    have Rp := Rp.ft hv s14 F1
    have hv := F1.inv hv
    have B := F1.bt B
    refine ok_aload_n dX3_takeSwap_4 rfl rfl ?_
    refine ok_aload_n dX3_takeSwap_5 rfl rfl ?_
    refine ok_getI dX3_takeSwap_6 f_X3_78 (is_sq hv s14) rfl ?_
    refine ok_iconst (v := 1) dX3_takeSwap_9 (by decide) ?_
    refine ok_isub dX3_takeSwap_10 ?_
    refine ok_callV (M' := mX3_isNumber) (b' := (0, 0)) (As := [_]) (cx := 3) dX3_takeSwap_11 iX3_isNumber w_645 (by decide) rfl (by first | exact is_lit hv (by decide) rfl | exact is_sq hv hq | exact is_row hv hq | exact is_pn hv hq (by assumption) | assumption) rfl (Nat.le_of_ble_eq_true rfl) ⟨Nat.le_of_ble_eq_true rfl, Nat.le_of_ble_eq_true rfl⟩ (Nat.le_of_ble_eq_true rfl) rfl rfl ?_
    refine sp_X3_isNumber hv B hk Tk (M := n) (by omega) (by rw [Rp.2.2.1]) ?_
    refine ok_if_ne (tgt := 19) dX3_takeSwap_14 (by decide) (fun c9 => absurd c9 (by rw [if_neg c]; exact fun c => c rfl)) (fun _ => ?_)
    refine ok_iconst (v := 0) dX3_takeSwap_17 (by decide) ?_
    refine ok_ireturn dX3_takeSwap_18 rfl rfl ?_
    exact K _ Q hv Tk (fun c => absurd c Bool.false_ne_true)
