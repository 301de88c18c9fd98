/-! ===== the text: any item, all of it ===== -/
theorem b01_if (b : Bool) : B01 (if b = true then 1 else 0) := by cases b; exact Or.inl rfl; exact Or.inr rfl
theorem tb1 {T : Nat → Nat} {z k : Nat} (hk : k ≤ z) : k ≤ tB T z k ∧ tB T z k ≤ z := ⟨Nat.le_trans (tF_le hk).1 (tB_le hk).1, (tB_le hk).2⟩
theorem tb2 {T : Nat → Nat} {z k : Nat} (hk : k ≤ z) (h : tT T z k ≠ 0) : k < tB T z k := Nat.lt_of_le_of_lt (tF_le hk).1 (tB_lt h)
theorem opt_pos {T : Nat → Nat} {z i M d k : Nat} (hk : k ≤ z) : k ≤ (i_opt T z i M d k).2.1 ∧ (i_opt T z i M d k).2.1 ≤ z := by
  have h1 := tb1 (T := T) hk
  have h2 := tb1 (T := T) h1.2
  unfold i_opt
  split
  · split
    · exact ⟨by show k ≤ tB T z (tB T z k); omega, h2.2⟩
    · exact h1
  · exact ⟨Nat.le_refl _, hk⟩
theorem item_pos {T : Nat → Nat} {z k n : Nat} {r : Nat → Int32} (hk : k ≤ z) : (i_item T z k n r).2.1 ≤ z ∧ ((i_item T z k n r).1 = true → k < (i_item T z k n r).2.1) := by
  unfold i_item
  split
  · rename_i h1
    have g0 := tb2 (T := T) hk (by omega)
    have g1 := tb1 (T := T) hk
    have g2 := tb1 (T := T) g1.2
    have g3 := tb1 (T := T) g2.2
    have g4 := tb1 (T := T) g3.2
    split
    · split
      · unfold i_coins
        split
        · exact ⟨g2.2, fun _ => Nat.lt_of_lt_of_le g0 g2.1⟩
        · exact ⟨g1.2, fun c => absurd c Bool.false_ne_true⟩
      · split
        · unfold i_law
          split
          · exact ⟨g2.2, fun _ => Nat.lt_of_lt_of_le g0 g2.1⟩
          · exact ⟨g1.2, fun c => absurd c Bool.false_ne_true⟩
        · split
          · unfold i_diver
            split
            · split
              · unfold i_dv
                split
                · exact ⟨g4.2, fun _ => Nat.lt_of_lt_of_le g0 (Nat.le_trans g2.1 (Nat.le_trans g3.1 g4.1))⟩
                · exact ⟨g3.2, fun c => absurd c Bool.false_ne_true⟩
              · unfold i_dv
                split
                · exact ⟨g3.2, fun _ => Nat.lt_of_lt_of_le g0 (Nat.le_trans g2.1 g3.1)⟩
                · exact ⟨g2.2, fun c => absurd c Bool.false_ne_true⟩
            · exact ⟨g1.2, fun _ => g0⟩
          · split
            · exact ⟨g1.2, fun _ => g0⟩
            · split
              · unfold i_swap
                split
                · split
                  · split
                    · exact ⟨g2.2, fun c => absurd c Bool.false_ne_true⟩
                    · exact ⟨g3.2, fun _ => Nat.lt_of_lt_of_le g0 (Nat.le_trans g2.1 g3.1)⟩
                  · exact ⟨g2.2, fun c => absurd c Bool.false_ne_true⟩
                · exact ⟨g1.2, fun c => absurd c Bool.false_ne_true⟩
              · exact ⟨hk, fun c => absurd c Bool.false_ne_true⟩
    · have o1 := opt_pos (T := T) (i := 6) (M := 1000) (d := 5) g1.2
      have o2 := opt_pos (T := T) (i := 7) (M := 100) (d := 3) o1.2
      have o3 := opt_pos (T := T) (i := 8) (M := 100) (d := 0) o2.2
      unfold i_pers
      split
      · unfold i_o1
        split
        · unfold i_o2
          split
          · unfold i_o3
            split
            · exact ⟨o3.2, fun _ => Nat.lt_of_lt_of_le g0 (Nat.le_trans o1.1 (Nat.le_trans o2.1 o3.1))⟩
            · exact ⟨o3.2, fun c => absurd c Bool.false_ne_true⟩
          · exact ⟨o2.2, fun c => absurd c Bool.false_ne_true⟩
        · exact ⟨o1.2, fun c => absurd c Bool.false_ne_true⟩
      · exact ⟨hk, fun c => absurd c Bool.false_ne_true⟩
  · exact ⟨hk, fun c => absurd c Bool.false_ne_true⟩
theorem ro_join {r v : Nat → Int32} {n p f : Nat} (hp : p ≤ n) (hf : f < 7) : ro (w_join r n v) p f = if p = n then v f else ro r p f := by
  unfold ro w_join
  rw [if_neg (by omega)]
  by_cases e : p = n
  · subst e
    rw [if_pos rfl, if_pos (by omega)]
    congr 1
    omega
  · rw [if_neg e, if_neg (by omega)]
theorem RG.join {r v : Nat → Int32} {n : Nat} (G : RG r n) (hn : n < 10) (h0 : Kd (v 0)) (h1 : ∃ u, u ≤ 999 ∧ v 1 = nI u) (h2 : ∃ u, u ≤ 99 ∧ v 2 = nI u) : RG (w_join r n v) (n + 1) := by
  obtain ⟨a, b, c, d, e⟩ := G
  refine ⟨by omega, if_pos rfl, ?_, ?_, fun p hp => ?_⟩
  · rw [show w_join r n v 2 = r 2 from (if_neg (by omega)).trans (if_neg (by omega))]; exact c
  · rw [show w_join r n v 3 = r 3 from (if_neg (by omega)).trans (if_neg (by omega))]; exact d
  · rw [ro_join (by omega) (by decide), ro_join (by omega) (by decide), ro_join (by omega) (by decide)]
    by_cases z : p = n
    · rw [if_pos z, if_pos z, if_pos z]
      exact ⟨h0, h1, h2⟩
    · rw [if_neg z, if_neg z, if_neg z]
      exact e p (by omega)
theorem RG.join3 {r : Nat → Int32} {n : Nat} (G : RG r n) (hn : n < 10) {y : Int32} (hy : Kd y) {a b : Nat} (ha : a ≤ 999) (hb : b ≤ 99) (c : Int32) : RG (w_join r n (up1 (up1 (up1 (arrV0 y) 1 (nI a)) 2 (nI b)) 3 c)) (n + 1) := G.join hn hy ⟨a, ha, rfl⟩ ⟨b, hb, rfl⟩
theorem opt_lt {T : Nat → Nat} {z i M d k : Nat} (hd : d < M) : (i_opt T z i M d k).2.2 < M := by
  unfold i_opt
  split
  · split
    · rename_i c
      exact (of_decide_eq_true c).2
    · show 0 < M
      omega
  · exact hd
theorem item_rg {T : Nat → Nat} {z k n : Nat} {r : Nat → Int32} (G : RG r n) : (i_item T z k n r).1 = true → RG (i_item T z k n r).2.2.2 (i_item T z k n r).2.2.1 := by
  unfold i_item
  split
  · split
    · split
      · unfold i_coins
        split
        · exact fun _ => G.sca (by decide) (by decide) (fun c => absurd c (by decide)) (fun c => absurd c (by decide))
        · exact fun c => absurd c Bool.false_ne_true
      · split
        · unfold i_law
          split
          · rename_i c
            refine fun _ => G.sca (by decide) (by decide) (fun _ => ?_) (fun c => absurd c (by decide))
            have := (of_decide_eq_true c).2
            rcases (show tN T z (tB T z k) = 0 ∨ tN T z (tB T z k) = 1 ∨ tN T z (tB T z k) = 2 by omega) with e | e | e <;> rw [e]
            · exact Or.inl rfl
            · exact Or.inr (Or.inl rfl)
            · exact Or.inr (Or.inr rfl)
          · exact fun c => absurd c Bool.false_ne_true
        · split
          · unfold i_diver
            split
            · split
              · unfold i_dv
                split
                · exact fun _ => G.div (Or.inr rfl) _
                · exact fun c => absurd c Bool.false_ne_true
              · unfold i_dv
                split
                · exact fun _ => G.div (Or.inr rfl) _
                · exact fun c => absurd c Bool.false_ne_true
            · exact fun _ => G.div (Or.inr rfl) _
          · split
            · exact fun _ => G.div (Or.inl rfl) _
            · split
              · unfold i_swap
                split
                · rename_i c1
                  split
                  · rename_i c2
                    split
                    · exact fun c => absurd c Bool.false_ne_true
                    · exact fun _ => G.pm (fun p hp => sw_lt (of_decide_eq_true c1).2 (of_decide_eq_true c2).2 hp)
                  · exact fun c => absurd c Bool.false_ne_true
                · exact fun c => absurd c Bool.false_ne_true
              · exact fun c => absurd c Bool.false_ne_true
    · rename_i hne
      unfold i_pers
      split
      · rename_i hn
        unfold i_o1
        split
        · unfold i_o2
          split
          · unfold i_o3
            split
            · intro _
              have l1 := opt_lt (T := T) (z := z) (i := 6) (M := 1000) (d := 5) (k := tB T z k) (by decide)
              have l2 := opt_lt (T := T) (z := z) (i := 7) (M := 100) (d := 3) (k := (i_opt T z 6 1000 5 (tB T z k)).2.1) (by decide)
              exact G.join3 hn ((kn_or T z k).resolve_left hne) (Nat.le_of_lt_succ l1) (Nat.le_of_lt_succ l2) _
            · exact fun c => absurd c Bool.false_ne_true
          · exact fun c => absurd c Bool.false_ne_true
        · exact fun c => absurd c Bool.false_ne_true
      · exact fun c => absurd c Bool.false_ne_true
  · exact fun c => absurd c Bool.false_ne_true
/-- the whole text: the answer, the row -/
def i_all (T : Nat → Nat) (z : Nat) : Nat → Nat → Nat → Nat → (Nat → Int32) → Int32 × Nat × (Nat → Int32)
  | 0, _, k, n, r => (-1 - nI (tF T z k), n, r)
  | f + 1, i, k, n, r => if (i_item T z k n r).1 = true then (if tT T z (i_item T z k n r).2.1 = 0 then (nI i, (i_item T z k n r).2.2.1, (i_item T z k n r).2.2.2) else if tT T z (i_item T z k n r).2.1 = 3 then i_all T z f (i + 1) (tB T z (i_item T z k n r).2.1) (i_item T z k n r).2.2.1 (i_item T z k n r).2.2.2 else (-1 - nI (tF T z (i_item T z k n r).2.1), n, r)) else (-1 - nI (tF T z (i_item T z k n r).2.1), n, r)
theorem neg_f {T : Nat → Nat} {z k : Nat} (hz : z ≤ 120) (hk : k ≤ z) : (-1 - nI (tF T z k)) < 0 := by
  have := (tF_le (T := T) hk).2
  have e1 : (-1 : Int32).toInt = -1 := rfl
  have e0 : (0 : Int32).toInt = 0 := rfl
  rw [i_lt, fb_subI (by rw [nI_toInt (by omega), e1]; omega) (by rw [nI_toInt (by omega), e1]; omega), nI_toInt (by omega), e1, e0]
  omega
theorem all_rg {T : Nat → Nat} {z : Nat} (hz : z ≤ 120) : ∀ f i k n (r : Nat → Int32), k ≤ z → RG r n → RG (i_all T z f i k n r).2.2 (i_all T z f i k n r).2.1
  | 0, _, _, _, _, _, G => G
  | f + 1, i, k, n, r, hk, G => by
    rw [i_all]
    split
    · rename_i c
      split
      · exact item_rg G c
      · split
        · exact all_rg hz f _ _ _ _ (tb1 (item_pos hk).1).2 (item_rg G c)
        · exact G
    · exact G
theorem sp_X3_takeItem {g : GG} {h0 h : Hp} {Post : Option Value → Hp → Prop} (X : Gx g) (hv : Inv h) {T : Nat → Nat} {z : Nat} (B : BT h T z) {k : Nat} (hk : k ≤ z) (Tk : Tok h T z k) {n : Nat} {r : Nat → Int32} (Rp : Rep h 14 n r) (Q : FQ h0 h) (K : ∀ h', FQ h0 h' → Inv h' → Tok h' T z (i_item T z k n r).2.1 → ((i_item T z k n r).1 = true → Rep h' 14 (i_item T z k n r).2.2.1 (i_item T z k n r).2.2.2) → Post (some (.int (if (i_item T z k n r).1 = true then 1 else 0))) h') : Sp g mX3_takeItem [.ref 38, .ref 14] h Post := by
  show Go g mX3_takeItem 0 [_, _, _] [] _ _ _
  have t5 := tT_le T z k
  by_cases c1 : tT T z k = 1
  · by_cases ck : kn T z k = -1
    · by_cases w9 : wis T z k 9 = true
      · rw [show i_item T z k n r = _ from (if_pos c1).trans ((if_pos ck).trans (if_pos w9))] at K
        refine ok_aload_n dX3_takeItem_0 rfl rfl ?_
        refine ok_getI dX3_takeItem_1 f_X3_19 (by first | exact is_lit hv (by decide) rfl | exact is_sq hv hq | exact is_row hv hq | exact is_pn hv hq (by assumption) | assumption) rfl ?_
        refine ok_iconst (v := 1) dX3_takeItem_4 (by decide) ?_
        rw [Tk.1]
        refine ok_icmp_eq (tgt := 10) dX3_takeItem_5 (by decide) (fun _ => ?_) (fun c9 => absurd (by rw [c1]; rfl) c9)
        refine ok_aload_n dX3_takeItem_10 rfl rfl ?_
        refine ok_callV (M' := mX3_kindNamed) (b' := (0, 0)) (As := []) (cx := 3) dX3_takeItem_11 iX3_kindNamed w_574 (by decide) rfl (by first | exact is_lit hv (by decide) rfl | exact is_sq hv hq | exact is_row hv hq | exact is_pn hv hq (by assumption) | assumption) rfl (Nat.le_of_ble_eq_true rfl) ⟨Nat.le_of_ble_eq_true rfl, Nat.le_of_ble_eq_true rfl⟩ (Nat.le_of_ble_eq_true rfl) rfl rfl ?_
        refine sp_X3_kindNamed X hv B hk Tk ?_
        refine ok_istore_n (lo' := [_, _, _]) dX3_takeItem_14 rfl (Nat.le_of_ble_eq_true rfl) rfl rfl ?_
        refine ok_iload_n dX3_takeItem_15 rfl rfl ?_
        refine ok_iconst (v := -1) dX3_takeItem_16 (by decide) ?_
        refine ok_icmp_eq (tgt := 27) dX3_takeItem_17 (by decide) (fun _ => ?_) (fun c9 => absurd ck c9)
        refine ok_aload_n dX3_takeItem_27 rfl rfl ?_
        refine ok_ldcS (q := 3009) dX3_takeItem_28 (fun U hU => (X U hU).2.2.2.1 9 (by decide)) ?_
        refine ok_callV (M' := mX3_isWord) (b' := (0, 0)) (As := [_]) (cx := 3) dX3_takeItem_30 iX3_isWord w_587 (by decide) rfl (by first | exact is_lit hv (by decide) rfl | exact is_sq hv hq | exact is_row hv hq | exact is_pn hv hq (by assumption) | assumption) rfl (Nat.le_of_ble_eq_true rfl) ⟨Nat.le_of_ble_eq_true rfl, Nat.le_of_ble_eq_true rfl⟩ (Nat.le_of_ble_eq_true rfl) rfl rfl ?_
        refine sp_X3_isWord X (i := 9) (by decide) hv B hk Tk ?_
        refine ok_if_eq (tgt := 42) dX3_takeItem_33 (by decide) (fun c9 => absurd c9 (by rw [if_pos w9]; decide)) (fun _ => ?_)
        refine ok_aload_n dX3_takeItem_36 rfl rfl ?_
        refine ok_aload_n dX3_takeItem_37 rfl rfl ?_
        refine ok_callV (M' := mX3_takeCoins) (b' := (0, 0)) (As := [_]) (cx := 3) dX3_takeItem_38 iX3_takeCoins w_656 (by decide) rfl (by first | exact is_lit hv (by decide) rfl | exact is_sq hv hq | exact is_row hv hq | exact is_pn hv hq (by assumption) | assumption) rfl (Nat.le_of_ble_eq_true rfl) ⟨Nat.le_of_ble_eq_true rfl, Nat.le_of_ble_eq_true rfl⟩ (Nat.le_of_ble_eq_true rfl) rfl rfl ?_
        refine sp_X3_takeCoins X hv B hk Tk Rp Q (fun h2 Q2 v2 T2 R2 => ?_)
        refine ok_ireturn dX3_takeItem_41 rfl (nar_b (b01_if _)) ?_
        exact K _ Q2 v2 T2 R2
      · by_cases w10 : wis T z k 10 = true
        · rw [show i_item T z k n r = _ from (if_pos c1).trans ((if_pos ck).trans ((if_neg w9).trans (if_pos w10)))] at K
          refine ok_aload_n dX3_takeItem_0 rfl rfl ?_
          refine ok_getI dX3_takeItem_1 f_X3_19 (by first | exact is_lit hv (by decide) rfl | exact is_sq hv hq | exact is_row hv hq | exact is_pn hv hq (by assumption) | assumption) rfl ?_
          refine ok_iconst (v := 1) dX3_takeItem_4 (by decide) ?_
          rw [Tk.1]
          refine ok_icmp_eq (tgt := 10) dX3_takeItem_5 (by decide) (fun _ => ?_) (fun c9 => absurd (by rw [c1]; rfl) c9)
          refine ok_aload_n dX3_takeItem_10 rfl rfl ?_
          refine ok_callV (M' := mX3_kindNamed) (b' := (0, 0)) (As := []) (cx := 3) dX3_takeItem_11 iX3_kindNamed w_574 (by decide) rfl (by first | exact is_lit hv (by decide) rfl | exact is_sq hv hq | exact is_row hv hq | exact is_pn hv hq (by assumption) | assumption) rfl (Nat.le_of_ble_eq_true rfl) ⟨Nat.le_of_ble_eq_true rfl, Nat.le_of_ble_eq_true rfl⟩ (Nat.le_of_ble_eq_true rfl) rfl rfl ?_
          refine sp_X3_kindNamed X hv B hk Tk ?_
          refine ok_istore_n (lo' := [_, _, _]) dX3_takeItem_14 rfl (Nat.le_of_ble_eq_true rfl) rfl rfl ?_
          refine ok_iload_n dX3_takeItem_15 rfl rfl ?_
          refine ok_iconst (v := -1) dX3_takeItem_16 (by decide) ?_
          refine ok_icmp_eq (tgt := 27) dX3_takeItem_17 (by decide) (fun _ => ?_) (fun c9 => absurd ck c9)
          refine ok_aload_n dX3_takeItem_27 rfl rfl ?_
          refine ok_ldcS (q := 3009) dX3_takeItem_28 (fun U hU => (X U hU).2.2.2.1 9 (by decide)) ?_
          refine ok_callV (M' := mX3_isWord) (b' := (0, 0)) (As := [_]) (cx := 3) dX3_takeItem_30 iX3_isWord w_587 (by decide) rfl (by first | exact is_lit hv (by decide) rfl | exact is_sq hv hq | exact is_row hv hq | exact is_pn hv hq (by assumption) | assumption) rfl (Nat.le_of_ble_eq_true rfl) ⟨Nat.le_of_ble_eq_true rfl, Nat.le_of_ble_eq_true rfl⟩ (Nat.le_of_ble_eq_true rfl) rfl rfl ?_
          refine sp_X3_isWord X (i := 9) (by decide) hv B hk Tk ?_
          refine ok_if_eq (tgt := 42) dX3_takeItem_33 (by decide) (fun _ => ?_) (fun c9 => absurd (if_neg w9) c9)
          refine ok_aload_n dX3_takeItem_42 rfl rfl ?_
          refine ok_ldcS (q := 3010) dX3_takeItem_43 (fun U hU => (X U hU).2.2.2.1 10 (by decide)) ?_
          refine ok_callV (M' := mX3_isWord) (b' := (0, 0)) (As := [_]) (cx := 3) dX3_takeItem_45 iX3_isWord w_587 (by decide) rfl (by first | exact is_lit hv (by decide) rfl | exact is_sq hv hq | exact is_row hv hq | exact is_pn hv hq (by assumption) | assumption) rfl (Nat.le_of_ble_eq_true rfl) ⟨Nat.le_of_ble_eq_true rfl, Nat.le_of_ble_eq_true rfl⟩ (Nat.le_of_ble_eq_true rfl) rfl rfl ?_
          refine sp_X3_isWord X (i := 10) (by decide) hv B hk Tk ?_
          refine ok_if_eq (tgt := 57) dX3_takeItem_48 (by decide) (fun c9 => absurd c9 (by rw [if_pos w10]; decide)) (fun _ => ?_)
          refine ok_aload_n dX3_takeItem_51 rfl rfl ?_
          refine ok_aload_n dX3_takeItem_52 rfl rfl ?_
          refine ok_callV (M' := mX3_takeLaw) (b' := (0, 0)) (As := [_]) (cx := 3) dX3_takeItem_53 iX3_takeLaw w_661 (by decide) rfl (by first | exact is_lit hv (by decide) rfl | exact is_sq hv hq | exact is_row hv hq | exact is_pn hv hq (by assumption) | assumption) rfl (Nat.le_of_ble_eq_true rfl) ⟨Nat.le_of_ble_eq_true rfl, Nat.le_of_ble_eq_true rfl⟩ (Nat.le_of_ble_eq_true rfl) rfl rfl ?_
          refine sp_X3_takeLaw X hv B hk Tk Rp Q (fun h2 Q2 v2 T2 R2 => ?_)
          refine ok_ireturn dX3_takeItem_56 rfl (nar_b (b01_if _)) ?_
          exact K _ Q2 v2 T2 R2
        · by_cases w11 : wis T z k 11 = true
          · rw [show i_item T z k n r = _ from (if_pos c1).trans ((if_pos ck).trans ((if_neg w9).trans ((if_neg w10).trans (if_pos w11))))] at K
            refine ok_aload_n dX3_takeItem_0 rfl rfl ?_
            refine ok_getI dX3_takeItem_1 f_X3_19 (by first | exact is_lit hv (by decide) rfl | exact is_sq hv hq | exact is_row hv hq | exact is_pn hv hq (by assumption) | assumption) rfl ?_
            refine ok_iconst (v := 1) dX3_takeItem_4 (by decide) ?_
            rw [Tk.1]
            refine ok_icmp_eq (tgt := 10) dX3_takeItem_5 (by decide) (fun _ => ?_) (fun c9 => absurd (by rw [c1]; rfl) c9)
            refine ok_aload_n dX3_takeItem_10 rfl rfl ?_
            refine ok_callV (M' := mX3_kindNamed) (b' := (0, 0)) (As := []) (cx := 3) dX3_takeItem_11 iX3_kindNamed w_574 (by decide) rfl (by first | exact is_lit hv (by decide) rfl | exact is_sq hv hq | exact is_row hv hq | exact is_pn hv hq (by assumption) | assumption) rfl (Nat.le_of_ble_eq_true rfl) ⟨Nat.le_of_ble_eq_true rfl, Nat.le_of_ble_eq_true rfl⟩ (Nat.le_of_ble_eq_true rfl) rfl rfl ?_
            refine sp_X3_kindNamed X hv B hk Tk ?_
            refine ok_istore_n (lo' := [_, _, _]) dX3_takeItem_14 rfl (Nat.le_of_ble_eq_true rfl) rfl rfl ?_
            refine ok_iload_n dX3_takeItem_15 rfl rfl ?_
            refine ok_iconst (v := -1) dX3_takeItem_16 (by decide) ?_
            refine ok_icmp_eq (tgt := 27) dX3_takeItem_17 (by decide) (fun _ => ?_) (fun c9 => absurd ck c9)
            refine ok_aload_n dX3_takeItem_27 rfl rfl ?_
            refine ok_ldcS (q := 3009) dX3_takeItem_28 (fun U hU => (X U hU).2.2.2.1 9 (by decide)) ?_
            refine ok_callV (M' := mX3_isWord) (b' := (0, 0)) (As := [_]) (cx := 3) dX3_takeItem_30 iX3_isWord w_587 (by decide) rfl (by first | exact is_lit hv (by decide) rfl | exact is_sq hv hq | exact is_row hv hq | exact is_pn hv hq (by assumption) | assumption) rfl (Nat.le_of_ble_eq_true rfl) ⟨Nat.le_of_ble_eq_true rfl, Nat.le_of_ble_eq_true rfl⟩ (Nat.le_of_ble_eq_true rfl) rfl rfl ?_
            refine sp_X3_isWord X (i := 9) (by decide) hv B hk Tk ?_
            refine ok_if_eq (tgt := 42) dX3_takeItem_33 (by decide) (fun _ => ?_) (fun c9 => absurd (if_neg w9) c9)
            refine ok_aload_n dX3_takeItem_42 rfl rfl ?_
            refine ok_ldcS (q := 3010) dX3_takeItem_43 (fun U hU => (X U hU).2.2.2.1 10 (by decide)) ?_
            refine ok_callV (M' := mX3_isWord) (b' := (0, 0)) (As := [_]) (cx := 3) dX3_takeItem_45 iX3_isWord w_587 (by decide) rfl (by first | exact is_lit hv (by decide) rfl | exact is_sq hv hq | exact is_row hv hq | exact is_pn hv hq (by assumption) | assumption) rfl (Nat.le_of_ble_eq_true rfl) ⟨Nat.le_of_ble_eq_true rfl, Nat.le_of_ble_eq_true rfl⟩ (Nat.le_of_ble_eq_true rfl) rfl rfl ?_
            refine sp_X3_isWord X (i := 10) (by decide) hv B hk Tk ?_
            refine ok_if_eq (tgt := 57) dX3_takeItem_48 (by decide) (fun _ => ?_) (fun c9 => absurd (if_neg w10) c9)
            refine ok_aload_n dX3_takeItem_57 rfl rfl ?_
            refine ok_ldcS (q := 3011) dX3_takeItem_58 (fun U hU => (X U hU).2.2.2.1 11 (by decide)) ?_
            refine ok_callV (M' := mX3_isWord) (b' := (0, 0)) (As := [_]) (cx := 3) dX3_takeItem_60 iX3_isWord w_587 (by decide) rfl (by first | exact is_lit hv (by decide) rfl | exact is_sq hv hq | exact is_row hv hq | exact is_pn hv hq (by assumption) | assumption) rfl (Nat.le_of_ble_eq_true rfl) ⟨Nat.le_of_ble_eq_true rfl, Nat.le_of_ble_eq_true rfl⟩ (Nat.le_of_ble_eq_true rfl) rfl rfl ?_
            refine sp_X3_isWord X (i := 11) (by decide) hv B hk Tk ?_
            refine ok_if_eq (tgt := 72) dX3_takeItem_63 (by decide) (fun c9 => absurd c9 (by rw [if_pos w11]; decide)) (fun _ => ?_)
            refine ok_aload_n dX3_takeItem_66 rfl rfl ?_
            refine ok_aload_n dX3_takeItem_67 rfl rfl ?_
            refine ok_callV (M' := mX3_takeDiver) (b' := (0, 0)) (As := [_]) (cx := 3) dX3_takeItem_68 iX3_takeDiver w_666 (by decide) rfl (by first | exact is_lit hv (by decide) rfl | exact is_sq hv hq | exact is_row hv hq | exact is_pn hv hq (by assumption) | assumption) rfl (Nat.le_of_ble_eq_true rfl) ⟨Nat.le_of_ble_eq_true rfl, Nat.le_of_ble_eq_true rfl⟩ (Nat.le_of_ble_eq_true rfl) rfl rfl ?_
            refine sp_X3_takeDiver X hv B hk Tk Rp Q (fun h2 Q2 v2 T2 R2 => ?_)
            refine ok_ireturn dX3_takeItem_71 rfl (nar_b (b01_if _)) ?_
            exact K _ Q2 v2 T2 R2
          · by_cases w13 : wis T z k 13 = true
            · rw [show i_item T z k n r = _ from (if_pos c1).trans ((if_pos ck).trans ((if_neg w9).trans ((if_neg w10).trans ((if_neg w11).trans (if_pos w13)))))] at K
              refine ok_aload_n dX3_takeItem_0 rfl rfl ?_
              refine ok_getI dX3_takeItem_1 f_X3_19 (by first | exact is_lit hv (by decide) rfl | exact is_sq hv hq | exact is_row hv hq | exact is_pn hv hq (by assumption) | assumption) rfl ?_
              refine ok_iconst (v := 1) dX3_takeItem_4 (by decide) ?_
              rw [Tk.1]
              refine ok_icmp_eq (tgt := 10) dX3_takeItem_5 (by decide) (fun _ => ?_) (fun c9 => absurd (by rw [c1]; rfl) c9)
              refine ok_aload_n dX3_takeItem_10 rfl rfl ?_
              refine ok_callV (M' := mX3_kindNamed) (b' := (0, 0)) (As := []) (cx := 3) dX3_takeItem_11 iX3_kindNamed w_574 (by decide) rfl (by first | exact is_lit hv (by decide) rfl | exact is_sq hv hq | exact is_row hv hq | exact is_pn hv hq (by assumption) | assumption) rfl (Nat.le_of_ble_eq_true rfl) ⟨Nat.le_of_ble_eq_true rfl, Nat.le_of_ble_eq_true rfl⟩ (Nat.le_of_ble_eq_true rfl) rfl rfl ?_
              refine sp_X3_kindNamed X hv B hk Tk ?_
              refine ok_istore_n (lo' := [_, _, _]) dX3_takeItem_14 rfl (Nat.le_of_ble_eq_true rfl) rfl rfl ?_
              refine ok_iload_n dX3_takeItem_15 rfl rfl ?_
              refine ok_iconst (v := -1) dX3_takeItem_16 (by decide) ?_
              refine ok_icmp_eq (tgt := 27) dX3_takeItem_17 (by decide) (fun _ => ?_) (fun c9 => absurd ck c9)
              refine ok_aload_n dX3_takeItem_27 rfl rfl ?_
              refine ok_ldcS (q := 3009) dX3_takeItem_28 (fun U hU => (X U hU).2.2.2.1 9 (by decide)) ?_
              refine ok_callV (M' := mX3_isWord) (b' := (0, 0)) (As := [_]) (cx := 3) dX3_takeItem_30 iX3_isWord w_587 (by decide) rfl (by first | exact is_lit hv (by decide) rfl | exact is_sq hv hq | exact is_row hv hq | exact is_pn hv hq (by assumption) | assumption) rfl (Nat.le_of_ble_eq_true rfl) ⟨Nat.le_of_ble_eq_true rfl, Nat.le_of_ble_eq_true rfl⟩ (Nat.le_of_ble_eq_true rfl) rfl rfl ?_
              refine sp_X3_isWord X (i := 9) (by decide) hv B hk Tk ?_
              refine ok_if_eq (tgt := 42) dX3_takeItem_33 (by decide) (fun _ => ?_) (fun c9 => absurd (if_neg w9) c9)
              refine ok_aload_n dX3_takeItem_42 rfl rfl ?_
              refine ok_ldcS (q := 3010) dX3_takeItem_43 (fun U hU => (X U hU).2.2.2.1 10 (by decide)) ?_
              refine ok_callV (M' := mX3_isWord) (b' := (0, 0)) (As := [_]) (cx := 3) dX3_takeItem_45 iX3_isWord w_587 (by decide) rfl (by first | exact is_lit hv (by decide) rfl | exact is_sq hv hq | exact is_row hv hq | exact is_pn hv hq (by assumption) | assumption) rfl (Nat.le_of_ble_eq_true rfl) ⟨Nat.le_of_ble_eq_true rfl, Nat.le_of_ble_eq_true rfl⟩ (Nat.le_of_ble_eq_true rfl) rfl rfl ?_
              refine sp_X3_isWord X (i := 10) (by decide) hv B hk Tk ?_
              refine ok_if_eq (tgt := 57) dX3_takeItem_48 (by decide) (fun _ => ?_) (fun c9 => absurd (if_neg w10) c9)
              refine ok_aload_n dX3_takeItem_57 rfl rfl ?_
              refine ok_ldcS (q := 3011) dX3_takeItem_58 (fun U hU => (X U hU).2.2.2.1 11 (by decide)) ?_
              refine ok_callV (M' := mX3_isWord) (b' := (0, 0)) (As := [_]) (cx := 3) dX3_takeItem_60 iX3_isWord w_587 (by decide) rfl (by first | exact is_lit hv (by decide) rfl | exact is_sq hv hq | exact is_row hv hq | exact is_pn hv hq (by assumption) | assumption) rfl (Nat.le_of_ble_eq_true rfl) ⟨Nat.le_of_ble_eq_true rfl, Nat.le_of_ble_eq_true rfl⟩ (Nat.le_of_ble_eq_true rfl) rfl rfl ?_
              refine sp_X3_isWord X (i := 11) (by decide) hv B hk Tk ?_
              refine ok_if_eq (tgt := 72) dX3_takeItem_63 (by decide) (fun _ => ?_) (fun c9 => absurd (if_neg w11) c9)
              refine ok_aload_n dX3_takeItem_72 rfl rfl ?_
              refine ok_ldcS (q := 3013) dX3_takeItem_73 (fun U hU => (X U hU).2.2.2.1 13 (by decide)) ?_
              refine ok_callV (M' := mX3_isWord) (b' := (0, 0)) (As := [_]) (cx := 3) dX3_takeItem_75 iX3_isWord w_587 (by decide) rfl (by first | exact is_lit hv (by decide) rfl | exact is_sq hv hq | exact is_row hv hq | exact is_pn hv hq (by assumption) | assumption) rfl (Nat.le_of_ble_eq_true rfl) ⟨Nat.le_of_ble_eq_true rfl, Nat.le_of_ble_eq_true rfl⟩ (Nat.le_of_ble_eq_true rfl) rfl rfl ?_
              refine sp_X3_isWord X (i := 13) (by decide) hv B hk Tk ?_
              refine ok_if_eq (tgt := 93) dX3_takeItem_78 (by decide) (fun c9 => absurd c9 (by rw [if_pos w13]; decide)) (fun _ => ?_)
              refine ok_aload_n dX3_takeItem_81 rfl rfl ?_
              refine ok_iconst (v := 0) dX3_takeItem_82 (by decide) ?_
              refine ok_iconst (v := 0) dX3_takeItem_83 (by decide) ?_
              refine ok_callV (M' := mX2_hear) (b' := (0, 0)) (As := [_, _]) (cx := 2) dX3_takeItem_84 iX2_hear w_670 (by decide) rfl (by first | exact is_lit hv (by decide) rfl | exact is_sq hv hq | exact is_row hv hq | exact is_pn hv hq (by assumption) | assumption) rfl (Nat.le_of_ble_eq_true rfl) ⟨Nat.le_of_ble_eq_true rfl, Nat.le_of_ble_eq_true rfl⟩ (Nat.le_of_ble_eq_true rfl) rfl rfl ?_
              refine sp_X2_hear hv s14 (Or.inl rfl) _ ?_
              have FH : Fr 14 h (uI (uI h 14 2 0) 14 3 (if (0 : Int32) = 0 then 0 else 0)) := (Fr.rf.u (q := 14) (by decide) (by decide)).u (by decide) (by decide)
              have Q := Q.fr FH
              have Tk := Tk.fr FH
              have B := B.fr FH
              have Rp := rep_uS (h := uI h 14 2 0) (v := if (0 : Int32) = 0 then 0 else 0) hv s14 (by decide : 3 < 6) (rep_uS (v := 0) hv s14 (by decide : 2 < 6) Rp)
              have hv : Inv (uI (uI h 14 2 0) 14 3 (if (0 : Int32) = 0 then 0 else 0)) := hv
              refine ok_aload_n dX3_takeItem_87 rfl rfl ?_
              refine ok_callV (M' := mX3_look) (b' := (0, 0)) (As := []) (cx := 3) dX3_takeItem_88 iX3_look w_556 (by decide) rfl (by first | exact is_lit hv (by decide) rfl | exact is_sq hv hq | exact is_row hv hq | exact is_pn hv hq (by assumption) | assumption) rfl (Nat.le_of_ble_eq_true rfl) ⟨Nat.le_of_ble_eq_true rfl, Nat.le_of_ble_eq_true rfl⟩ (Nat.le_of_ble_eq_true rfl) rfl rfl ?_
              refine sp_X3_look hv B (tB_le hk).2 Tk.2.2.1 (fun h1 F1 Tk => ?_)
              have hk := (tB_le (T := T) hk).2
              have Q := Q.ft F1
              have Rp := Rp.ft hv s14 F1
              have hv := F1.inv hv
              have B := F1.bt B
              refine ok_iconst (v := 1) dX3_takeItem_91 (by decide) ?_
              refine ok_ireturn dX3_takeItem_92 rfl rfl ?_
              exact K _ Q hv Tk (fun _ => Rp)
            · by_cases w14 : wis T z k 14 = true
              · rw [show i_item T z k n r = _ from (if_pos c1).trans ((if_pos ck).trans ((if_neg w9).trans ((if_neg w10).trans ((if_neg w11).trans ((if_neg w13).trans (if_pos w14))))))] at K
                refine ok_aload_n dX3_takeItem_0 rfl rfl ?_
                refine ok_getI dX3_takeItem_1 f_X3_19 (by first | exact is_lit hv (by decide) rfl | exact is_sq hv hq | exact is_row hv hq | exact is_pn hv hq (by assumption) | assumption) rfl ?_
                refine ok_iconst (v := 1) dX3_takeItem_4 (by decide) ?_
                rw [Tk.1]
                refine ok_icmp_eq (tgt := 10) dX3_takeItem_5 (by decide) (fun _ => ?_) (fun c9 => absurd (by rw [c1]; rfl) c9)
                refine ok_aload_n dX3_takeItem_10 rfl rfl ?_
                refine ok_callV (M' := mX3_kindNamed) (b' := (0, 0)) (As := []) (cx := 3) dX3_takeItem_11 iX3_kindNamed w_574 (by decide) rfl (by first | exact is_lit hv (by decide) rfl | exact is_sq hv hq | exact is_row hv hq | exact is_pn hv hq (by assumption) | assumption) rfl (Nat.le_of_ble_eq_true rfl) ⟨Nat.le_of_ble_eq_true rfl, Nat.le_of_ble_eq_true rfl⟩ (Nat.le_of_ble_eq_true rfl) rfl rfl ?_
                refine sp_X3_kindNamed X hv B hk Tk ?_
                refine ok_istore_n (lo' := [_, _, _]) dX3_takeItem_14 rfl (Nat.le_of_ble_eq_true rfl) rfl rfl ?_
                refine ok_iload_n dX3_takeItem_15 rfl rfl ?_
                refine ok_iconst (v := -1) dX3_takeItem_16 (by decide) ?_
                refine ok_icmp_eq (tgt := 27) dX3_takeItem_17 (by decide) (fun _ => ?_) (fun c9 => absurd ck c9)
                refine ok_aload_n dX3_takeItem_27 rfl rfl ?_
                refine ok_ldcS (q := 3009) dX3_takeItem_28 (fun U hU => (X U hU).2.2.2.1 9 (by decide)) ?_
                refine ok_callV (M' := mX3_isWord) (b' := (0, 0)) (As := [_]) (cx := 3) dX3_takeItem_30 iX3_isWord w_587 (by decide) rfl (by first | exact is_lit hv (by decide) rfl | exact is_sq hv hq | exact is_row hv hq | exact is_pn hv hq (by assumption) | assumption) rfl (Nat.le_of_ble_eq_true rfl) ⟨Nat.le_of_ble_eq_true rfl, Nat.le_of_ble_eq_true rfl⟩ (Nat.le_of_ble_eq_true rfl) rfl rfl ?_
                refine sp_X3_isWord X (i := 9) (by decide) hv B hk Tk ?_
                refine ok_if_eq (tgt := 42) dX3_takeItem_33 (by decide) (fun _ => ?_) (fun c9 => absurd (if_neg w9) c9)
                refine ok_aload_n dX3_takeItem_42 rfl rfl ?_
                refine ok_ldcS (q := 3010) dX3_takeItem_43 (fun U hU => (X U hU).2.2.2.1 10 (by decide)) ?_
                refine ok_callV (M' := mX3_isWord) (b' := (0, 0)) (As := [_]) (cx := 3) dX3_takeItem_45 iX3_isWord w_587 (by decide) rfl (by first | exact is_lit hv (by decide) rfl | exact is_sq hv hq | exact is_row hv hq | exact is_pn hv hq (by assumption) | assumption) rfl (Nat.le_of_ble_eq_true rfl) ⟨Nat.le_of_ble_eq_true rfl, Nat.le_of_ble_eq_true rfl⟩ (Nat.le_of_ble_eq_true rfl) rfl rfl ?_
                refine sp_X3_isWord X (i := 10) (by decide) hv B hk Tk ?_
                refine ok_if_eq (tgt := 57) dX3_takeItem_48 (by decide) (fun _ => ?_) (fun c9 => absurd (if_neg w10) c9)
                refine ok_aload_n dX3_takeItem_57 rfl rfl ?_
                refine ok_ldcS (q := 3011) dX3_takeItem_58 (fun U hU => (X U hU).2.2.2.1 11 (by decide)) ?_
                refine ok_callV (M' := mX3_isWord) (b' := (0, 0)) (As := [_]) (cx := 3) dX3_takeItem_60 iX3_isWord w_587 (by decide) rfl (by first | exact is_lit hv (by decide) rfl | exact is_sq hv hq | exact is_row hv hq | exact is_pn hv hq (by assumption) | assumption) rfl (Nat.le_of_ble_eq_true rfl) ⟨Nat.le_of_ble_eq_true rfl, Nat.le_of_ble_eq_true rfl⟩ (Nat.le_of_ble_eq_true rfl) rfl rfl ?_
                refine sp_X3_isWord X (i := 11) (by decide) hv B hk Tk ?_
                refine ok_if_eq (tgt := 72) dX3_takeItem_63 (by decide) (fun _ => ?_) (fun c9 => absurd (if_neg w11) c9)
                refine ok_aload_n dX3_takeItem_72 rfl rfl ?_
                refine ok_ldcS (q := 3013) dX3_takeItem_73 (fun U hU => (X U hU).2.2.2.1 13 (by decide)) ?_
                refine ok_callV (M' := mX3_isWord) (b' := (0, 0)) (As := [_]) (cx := 3) dX3_takeItem_75 iX3_isWord w_587 (by decide) rfl (by first | exact is_lit hv (by decide) rfl | exact is_sq hv hq | exact is_row hv hq | exact is_pn hv hq (by assumption) | assumption) rfl (Nat.le_of_ble_eq_true rfl) ⟨Nat.le_of_ble_eq_true rfl, Nat.le_of_ble_eq_true rfl⟩ (Nat.le_of_ble_eq_true rfl) rfl rfl ?_
                refine sp_X3_isWord X (i := 13) (by decide) hv B hk Tk ?_
                refine ok_if_eq (tgt := 93) dX3_takeItem_78 (by decide) (fun _ => ?_) (fun c9 => absurd (if_neg w13) c9)
                refine ok_aload_n dX3_takeItem_93 rfl rfl ?_
                refine ok_ldcS (q := 3014) dX3_takeItem_94 (fun U hU => (X U hU).2.2.2.1 14 (by decide)) ?_
                refine ok_callV (M' := mX3_isWord) (b' := (0, 0)) (As := [_]) (cx := 3) dX3_takeItem_96 iX3_isWord w_587 (by decide) rfl (by first | exact is_lit hv (by decide) rfl | exact is_sq hv hq | exact is_row hv hq | exact is_pn hv hq (by assumption) | assumption) rfl (Nat.le_of_ble_eq_true rfl) ⟨Nat.le_of_ble_eq_true rfl, Nat.le_of_ble_eq_true rfl⟩ (Nat.le_of_ble_eq_true rfl) rfl rfl ?_
                refine sp_X3_isWord X (i := 14) (by decide) hv B hk Tk ?_
                refine ok_if_eq (tgt := 114) dX3_takeItem_99 (by decide) (fun c9 => absurd c9 (by rw [if_pos w14]; decide)) (fun _ => ?_)
                refine ok_aload_n dX3_takeItem_102 rfl rfl ?_
                refine ok_aload_n dX3_takeItem_103 rfl rfl ?_
                refine ok_callV (M' := mX3_takeSwap) (b' := (0, 0)) (As := [_]) (cx := 3) dX3_takeItem_104 iX3_takeSwap w_674 (by decide) rfl (by first | exact is_lit hv (by decide) rfl | exact is_sq hv hq | exact is_row hv hq | exact is_pn hv hq (by assumption) | assumption) rfl (Nat.le_of_ble_eq_true rfl) ⟨Nat.le_of_ble_eq_true rfl, Nat.le_of_ble_eq_true rfl⟩ (Nat.le_of_ble_eq_true rfl) rfl rfl ?_
                refine sp_X3_takeSwap X hv B hk Tk Rp Q (fun h2 Q2 v2 T2 R2 => ?_)
                refine ok_if_eq (tgt := 114) dX3_takeItem_107 (by decide) (fun c_107 => ?_) (fun c_107 => ?_)
                · refine ok_iconst (v := 0) dX3_takeItem_114 (by decide) ?_
                  refine ok_ireturn dX3_takeItem_115 rfl rfl ?_
                  have K2 := K _ Q2 v2 T2 R2
                  first | (rw [c_107] at K2; exact K2) | (rcases b01_if (i_swap T z k n r).1 with e | e; exact absurd e c_107; rw [e] at K2; exact K2)
                · refine ok_iconst (v := 1) dX3_takeItem_110 (by decide) ?_
                  refine ok_goto (tgt := 115) dX3_takeItem_111 (by decide) ?_
                  refine ok_ireturn dX3_takeItem_115 rfl rfl ?_
                  have K2 := K _ Q2 v2 T2 R2
                  first | (rw [c_107] at K2; exact K2) | (rcases b01_if (i_swap T z k n r).1 with e | e; exact absurd e c_107; rw [e] at K2; exact K2)
              · rw [show i_item T z k n r = _ from (if_pos c1).trans ((if_pos ck).trans ((if_neg w9).trans ((if_neg w10).trans ((if_neg w11).trans ((if_neg w13).trans ((if_neg w14)))))))] at K
                refine ok_aload_n dX3_takeItem_0 rfl rfl ?_
                refine ok_getI dX3_takeItem_1 f_X3_19 (by first | exact is_lit hv (by decide) rfl | exact is_sq hv hq | exact is_row hv hq | exact is_pn hv hq (by assumption) | assumption) rfl ?_
                refine ok_iconst (v := 1) dX3_takeItem_4 (by decide) ?_
                rw [Tk.1]
                refine ok_icmp_eq (tgt := 10) dX3_takeItem_5 (by decide) (fun _ => ?_) (fun c9 => absurd (by rw [c1]; rfl) c9)
                refine ok_aload_n dX3_takeItem_10 rfl rfl ?_
                refine ok_callV (M' := mX3_kindNamed) (b' := (0, 0)) (As := []) (cx := 3) dX3_takeItem_11 iX3_kindNamed w_574 (by decide) rfl (by first | exact is_lit hv (by decide) rfl | exact is_sq hv hq | exact is_row hv hq | exact is_pn hv hq (by assumption) | assumption) rfl (Nat.le_of_ble_eq_true rfl) ⟨Nat.le_of_ble_eq_true rfl, Nat.le_of_ble_eq_true rfl⟩ (Nat.le_of_ble_eq_true rfl) rfl rfl ?_
                refine sp_X3_kindNamed X hv B hk Tk ?_
                refine ok_istore_n (lo' := [_, _, _]) dX3_takeItem_14 rfl (Nat.le_of_ble_eq_true rfl) rfl rfl ?_
                refine ok_iload_n dX3_takeItem_15 rfl rfl ?_
                refine ok_iconst (v := -1) dX3_takeItem_16 (by decide) ?_
                refine ok_icmp_eq (tgt := 27) dX3_takeItem_17 (by decide) (fun _ => ?_) (fun c9 => absurd ck c9)
                refine ok_aload_n dX3_takeItem_27 rfl rfl ?_
                refine ok_ldcS (q := 3009) dX3_takeItem_28 (fun U hU => (X U hU).2.2.2.1 9 (by decide)) ?_
                refine ok_callV (M' := mX3_isWord) (b' := (0, 0)) (As := [_]) (cx := 3) dX3_takeItem_30 iX3_isWord w_587 (by decide) rfl (by first | exact is_lit hv (by decide) rfl | exact is_sq hv hq | exact is_row hv hq | exact is_pn hv hq (by assumption) | assumption) rfl (Nat.le_of_ble_eq_true rfl) ⟨Nat.le_of_ble_eq_true rfl, Nat.le_of_ble_eq_true rfl⟩ (Nat.le_of_ble_eq_true rfl) rfl rfl ?_
                refine sp_X3_isWord X (i := 9) (by decide) hv B hk Tk ?_
                refine ok_if_eq (tgt := 42) dX3_takeItem_33 (by decide) (fun _ => ?_) (fun c9 => absurd (if_neg w9) c9)
                refine ok_aload_n dX3_takeItem_42 rfl rfl ?_
                refine ok_ldcS (q := 3010) dX3_takeItem_43 (fun U hU => (X U hU).2.2.2.1 10 (by decide)) ?_
                refine ok_callV (M' := mX3_isWord) (b' := (0, 0)) (As := [_]) (cx := 3) dX3_takeItem_45 iX3_isWord w_587 (by decide) rfl (by first | exact is_lit hv (by decide) rfl | exact is_sq hv hq | exact is_row hv hq | exact is_pn hv hq (by assumption) | assumption) rfl (Nat.le_of_ble_eq_true rfl) ⟨Nat.le_of_ble_eq_true rfl, Nat.le_of_ble_eq_true rfl⟩ (Nat.le_of_ble_eq_true rfl) rfl rfl ?_
                refine sp_X3_isWord X (i := 10) (by decide) hv B hk Tk ?_
                refine ok_if_eq (tgt := 57) dX3_takeItem_48 (by decide) (fun _ => ?_) (fun c9 => absurd (if_neg w10) c9)
                refine ok_aload_n dX3_takeItem_57 rfl rfl ?_
                refine ok_ldcS (q := 3011) dX3_takeItem_58 (fun U hU => (X U hU).2.2.2.1 11 (by decide)) ?_
                refine ok_callV (M' := mX3_isWord) (b' := (0, 0)) (As := [_]) (cx := 3) dX3_takeItem_60 iX3_isWord w_587 (by decide) rfl (by first | exact is_lit hv (by decide) rfl | exact is_sq hv hq | exact is_row hv hq | exact is_pn hv hq (by assumption) | assumption) rfl (Nat.le_of_ble_eq_true rfl) ⟨Nat.le_of_ble_eq_true rfl, Nat.le_of_ble_eq_true rfl⟩ (Nat.le_of_ble_eq_true rfl) rfl rfl ?_
                refine sp_X3_isWord X (i := 11) (by decide) hv B hk Tk ?_
                refine ok_if_eq (tgt := 72) dX3_takeItem_63 (by decide) (fun _ => ?_) (fun c9 => absurd (if_neg w11) c9)
                refine ok_aload_n dX3_takeItem_72 rfl rfl ?_
                refine ok_ldcS (q := 3013) dX3_takeItem_73 (fun U hU => (X U hU).2.2.2.1 13 (by decide)) ?_
                refine ok_callV (M' := mX3_isWord) (b' := (0, 0)) (As := [_]) (cx := 3) dX3_takeItem_75 iX3_isWord w_587 (by decide) rfl (by first | exact is_lit hv (by decide) rfl | exact is_sq hv hq | exact is_row hv hq | exact is_pn hv hq (by assumption) | assumption) rfl (Nat.le_of_ble_eq_true rfl) ⟨Nat.le_of_ble_eq_true rfl, Nat.le_of_ble_eq_true rfl⟩ (Nat.le_of_ble_eq_true rfl) rfl rfl ?_
                refine sp_X3_isWord X (i := 13) (by decide) hv B hk Tk ?_
                refine ok_if_eq (tgt := 93) dX3_takeItem_78 (by decide) (fun _ => ?_) (fun c9 => absurd (if_neg w13) c9)
                refine ok_aload_n dX3_takeItem_93 rfl rfl ?_
                refine ok_ldcS (q := 3014) dX3_takeItem_94 (fun U hU => (X U hU).2.2.2.1 14 (by decide)) ?_
                refine ok_callV (M' := mX3_isWord) (b' := (0, 0)) (As := [_]) (cx := 3) dX3_takeItem_96 iX3_isWord w_587 (by decide) rfl (by first | exact is_lit hv (by decide) rfl | exact is_sq hv hq | exact is_row hv hq | exact is_pn hv hq (by assumption) | assumption) rfl (Nat.le_of_ble_eq_true rfl) ⟨Nat.le_of_ble_eq_true rfl, Nat.le_of_ble_eq_true rfl⟩ (Nat.le_of_ble_eq_true rfl) rfl rfl ?_
                refine sp_X3_isWord X (i := 14) (by decide) hv B hk Tk ?_
                refine ok_if_eq (tgt := 114) dX3_takeItem_99 (by decide) (fun _ => ?_) (fun c9 => absurd (if_neg w14) c9)
                refine ok_iconst (v := 0) dX3_takeItem_114 (by decide) ?_
                refine ok_ireturn dX3_takeItem_115 rfl rfl ?_
                exact K _ Q hv Tk (fun c => absurd c Bool.false_ne_true)
    · rw [show i_item T z k n r = _ from (if_pos c1).trans (if_neg ck)] at K
      refine ok_aload_n dX3_takeItem_0 rfl rfl ?_
      refine ok_getI dX3_takeItem_1 f_X3_19 (by first | exact is_lit hv (by decide) rfl | exact is_sq hv hq | exact is_row hv hq | exact is_pn hv hq (by assumption) | assumption) rfl ?_
      refine ok_iconst (v := 1) dX3_takeItem_4 (by decide) ?_
      rw [Tk.1]
      refine ok_icmp_eq (tgt := 10) dX3_takeItem_5 (by decide) (fun _ => ?_) (fun c9 => absurd (by rw [c1]; rfl) c9)
      refine ok_aload_n dX3_takeItem_10 rfl rfl ?_
      refine ok_callV (M' := mX3_kindNamed) (b' := (0, 0)) (As := []) (cx := 3) dX3_takeItem_11 iX3_kindNamed w_574 (by decide) rfl (by first | exact is_lit hv (by decide) rfl | exact is_sq hv hq | exact is_row hv hq | exact is_pn hv hq (by assumption) | assumption) rfl (Nat.le_of_ble_eq_true rfl) ⟨Nat.le_of_ble_eq_true rfl, Nat.le_of_ble_eq_true rfl⟩ (Nat.le_of_ble_eq_true rfl) rfl rfl ?_
      refine sp_X3_kindNamed X hv B hk Tk ?_
      refine ok_istore_n (lo' := [_, _, _]) dX3_takeItem_14 rfl (Nat.le_of_ble_eq_true rfl) rfl rfl ?_
      refine ok_iload_n dX3_takeItem_15 rfl rfl ?_
      refine ok_iconst (v := -1) dX3_takeItem_16 (by decide) ?_
      refine ok_icmp_eq (tgt := 27) dX3_takeItem_17 (by decide) (fun c9 => absurd c9 ck) (fun _ => ?_)
      refine ok_aload_n dX3_takeItem_20 rfl rfl ?_
      refine ok_aload_n dX3_takeItem_21 rfl rfl ?_
      refine ok_iload_n dX3_takeItem_22 rfl rfl ?_
      refine ok_callV (M' := mX3_takePerson) (b' := (0, 0)) (As := [_, _]) (cx := 3) dX3_takeItem_23 iX3_takePerson w_639 (by decide) rfl (by first | exact is_lit hv (by decide) rfl | exact is_sq hv hq | exact is_row hv hq | exact is_pn hv hq (by assumption) | assumption) rfl (Nat.le_of_ble_eq_true rfl) ⟨Nat.le_of_ble_eq_true rfl, Nat.le_of_ble_eq_true rfl⟩ (Nat.le_of_ble_eq_true rfl) rfl rfl ?_
      refine sp_X3_takePerson X hv B hk Tk Rp Q _ (fun h2 Q2 v2 T2 R2 => ?_)
      refine ok_ireturn dX3_takeItem_26 rfl (nar_b (b01_if _)) ?_
      exact K _ Q2 v2 T2 R2
  · rw [show i_item T z k n r = _ from if_neg c1] at K
    refine ok_aload_n dX3_takeItem_0 rfl rfl ?_
    refine ok_getI dX3_takeItem_1 f_X3_19 (by first | exact is_lit hv (by decide) rfl | exact is_sq hv hq | exact is_row hv hq | exact is_pn hv hq (by assumption) | assumption) rfl ?_
    refine ok_iconst (v := 1) dX3_takeItem_4 (by decide) ?_
    rw [Tk.1]
    refine ok_icmp_eq (tgt := 10) dX3_takeItem_5 (by decide) (fun c9 => absurd c9 (fun c => c1 ((nI_inj2 (b := 1) (by omega) (by omega)).mp c))) (fun _ => ?_)
    refine ok_iconst (v := 0) dX3_takeItem_8 (by decide) ?_
    refine ok_ireturn dX3_takeItem_9 rfl rfl ?_
    exact K _ Q hv Tk (fun c => absurd c Bool.false_ne_true)
theorem FQ.tr {h h' h'' : Hp} (a : FQ h h') (b : FQ h' h'') : FQ h h'' := ⟨b.1.trans a.1, b.2.1.trans a.2.1, fun x hx => ⟨(b.2.2.1 x hx).1.trans (a.2.2.1 x hx).1, fun h38 => ((b.2.2.1 x hx).2 h38).trans ((a.2.2.1 x hx).2 h38)⟩, b.2.2.2.trans a.2.2.2⟩
theorem FQ.bt {h h' : Hp} {T : Nat → Nat} {z : Nat} (F : FQ h h') (B : BT h T z) : BT h' T z := ⟨B.1, F.2.2.2.trans B.2.1, B.2.2.1, fun i hi => by show h'.1 39 i = _; rw [(F.2.2.1 39 (by decide)).2 (by decide)]; exact B.2.2.2 i hi⟩
theorem lp_X3_tell_11 {g : GG} {h0 : Hp} {Post : Option Value → Hp → Prop} (X : Gx g) {T : Nat → Nat} {z : Nat} : ∀ (f i : Nat) (h : Hp) (k n : Nat) (r : Nat → Int32), i + f = 121 → Inv h → BT h T z → k ≤ z → Tok h T z k → Rep h 14 n r → FQ h0 h → (∀ h', FQ h0 h' → Inv h' → (¬ (i_all T z f i k n r).1 < 0 → Rep h' 14 (i_all T z f i k n r).2.1 (i_all T z f i k n r).2.2) → Post (some (.int (i_all T z f i k n r).1)) h') → Go g mX3_tell 11 [some (.ref 38), some (.ref 14), some (.int (nI i))] [] h (0, 0) Post := by
  intro f
  induction f with
  | zero =>
    intro i h k n r hi hv B hk Tk Rp Q K
    obtain rfl : i = 121 := by omega
    have hng := neg_f (T := T) B.1 hk
    refine ok_iload_n dX3_tell_11 rfl rfl ?_
    refine ok_bipush (v := 120) dX3_tell_12 (by decide) ?_
    refine ok_icmp_gt (tgt := 58) dX3_tell_14 (by decide) (fun _ => ?_) (fun c9 => absurd (by decide) c9)
    refine ok_iconst (v := -1) dX3_tell_58 (by decide) ?_
    refine ok_aload_n dX3_tell_59 rfl rfl ?_
    refine ok_getI dX3_tell_60 f_X3_22 (is_lit hv (by decide) rfl) rfl ?_
    rw [Tk.2.1]
    refine ok_isub dX3_tell_63 ?_
    refine ok_ireturn dX3_tell_64 rfl rfl ?_
    exact K h Q hv (fun c => absurd hng c)
  | succ f ih =>
    intro i h k n r hi hv B hk Tk Rp Q K
    rw [i_all] at K
    obtain ⟨ip1, ip2⟩ := item_pos (T := T) (n := n) (r := r) hk
    have t5 := tT_le T z (i_item T z k n r).2.1
    have hng := neg_f (T := T) B.1 ip1
    by_cases c1 : (i_item T z k n r).1 = true
    · rw [if_pos c1] at K
      by_cases c2 : tT T z (i_item T z k n r).2.1 = 0
      · rw [if_pos c2] at K
        refine ok_iload_n dX3_tell_11 rfl rfl ?_
        refine ok_bipush (v := 120) dX3_tell_12 (by decide) ?_
        refine ok_icmp_gt (tgt := 58) dX3_tell_14 (by decide) (fun c9 => absurd c9 (nI_nlt (a := 120) (b := i) (by omega) (by omega))) (fun _ => ?_)
        refine ok_aload_n dX3_tell_17 rfl rfl ?_
        refine ok_aload_n dX3_tell_18 rfl rfl ?_
        refine ok_callV (M' := mX3_takeItem) (b' := (0, 0)) (As := [_]) (cx := 3) dX3_tell_19 iX3_takeItem w_570 (by decide) rfl (by first | exact is_lit hv (by decide) rfl | exact is_sq hv hq | exact is_row hv hq | exact is_pn hv hq (by assumption) | assumption) rfl (Nat.le_of_ble_eq_true rfl) ⟨Nat.le_of_ble_eq_true rfl, Nat.le_of_ble_eq_true rfl⟩ (Nat.le_of_ble_eq_true rfl) rfl rfl ?_
        refine sp_X3_takeItem X hv B hk Tk Rp FQ.rf (fun h2 F2 v2 T2 R2 => ?_)
        have Q2 := Q.tr F2
        have B2 : BT h2 T z := F2.bt B
        have hv := v2
        refine ok_if_ne (tgt := 28) dX3_tell_22 (by decide) (fun _ => ?_) (fun c9 => absurd c9 (by rw [if_pos c1]; decide))
        refine ok_aload_n dX3_tell_28 rfl rfl ?_
        refine ok_getI dX3_tell_29 f_X3_19 (is_lit v2 (by decide) rfl) rfl ?_
        rw [T2.1]
        refine ok_if_ne (tgt := 37) dX3_tell_32 (by decide) (fun c9 => absurd c9 (by rw [c2]; exact fun c => c rfl)) (fun _ => ?_)
        refine ok_iload_n dX3_tell_35 rfl rfl ?_
        refine ok_ireturn dX3_tell_36 rfl rfl ?_
        exact K h2 Q2 v2 (fun _ => R2 c1)
      · rw [if_neg c2] at K
        by_cases c3 : tT T z (i_item T z k n r).2.1 = 3
        · rw [if_pos c3] at K
          refine ok_iload_n dX3_tell_11 rfl rfl ?_
          refine ok_bipush (v := 120) dX3_tell_12 (by decide) ?_
          refine ok_icmp_gt (tgt := 58) dX3_tell_14 (by decide) (fun c9 => absurd c9 (nI_nlt (a := 120) (b := i) (by omega) (by omega))) (fun _ => ?_)
          refine ok_aload_n dX3_tell_17 rfl rfl ?_
          refine ok_aload_n dX3_tell_18 rfl rfl ?_
          refine ok_callV (M' := mX3_takeItem) (b' := (0, 0)) (As := [_]) (cx := 3) dX3_tell_19 iX3_takeItem w_570 (by decide) rfl (by first | exact is_lit hv (by decide) rfl | exact is_sq hv hq | exact is_row hv hq | exact is_pn hv hq (by assumption) | assumption) rfl (Nat.le_of_ble_eq_true rfl) ⟨Nat.le_of_ble_eq_true rfl, Nat.le_of_ble_eq_true rfl⟩ (Nat.le_of_ble_eq_true rfl) rfl rfl ?_
          refine sp_X3_takeItem X hv B hk Tk Rp FQ.rf (fun h2 F2 v2 T2 R2 => ?_)
          have Q2 := Q.tr F2
          have B2 : BT h2 T z := F2.bt B
          have hv := v2
          refine ok_if_ne (tgt := 28) dX3_tell_22 (by decide) (fun _ => ?_) (fun c9 => absurd c9 (by rw [if_pos c1]; decide))
          refine ok_aload_n dX3_tell_28 rfl rfl ?_
          refine ok_getI dX3_tell_29 f_X3_19 (is_lit v2 (by decide) rfl) rfl ?_
          rw [T2.1]
          refine ok_if_ne (tgt := 37) dX3_tell_32 (by decide) (fun _ => ?_) (fun c9 => absurd c9 (fun c => c2 ((nI_inj2 (b := 0) (by omega) (by omega)).mp c)))
          refine ok_aload_n dX3_tell_37 rfl rfl ?_
          refine ok_getI dX3_tell_38 f_X3_19 (is_lit v2 (by decide) rfl) rfl ?_
          refine ok_iconst (v := 3) dX3_tell_41 (by decide) ?_
          rw [T2.1]
          refine ok_icmp_eq (tgt := 48) dX3_tell_42 (by decide) (fun _ => ?_) (fun c9 => absurd (by rw [c3]; rfl) c9)
          refine ok_aload_n dX3_tell_48 rfl rfl ?_
          refine ok_callV (M' := mX3_look) (b' := (0, 0)) (As := []) (cx := 3) dX3_tell_49 iX3_look w_556 (by decide) rfl (by first | exact is_lit hv (by decide) rfl | exact is_sq hv hq | exact is_row hv hq | exact is_pn hv hq (by assumption) | assumption) rfl (Nat.le_of_ble_eq_true rfl) ⟨Nat.le_of_ble_eq_true rfl, Nat.le_of_ble_eq_true rfl⟩ (Nat.le_of_ble_eq_true rfl) rfl rfl ?_
          refine sp_X3_look v2 B2 (tB_le ip1).2 T2.2.2.1 (fun h3 F3 T3 => ?_)
          refine ok_iinc (v := _ + 1) (lo' := [_, _, _]) dX3_tell_52 rfl rfl (Nat.le_of_ble_eq_true rfl) rfl rfl ?_
          refine ok_goto (tgt := 11) dX3_tell_55 (by decide) ?_
          rw [nI_1]
          exact ih (i + 1) h3 _ _ _ (by omega) (F3.inv v2) (F3.bt B2) (tB_le ip1).2 T3 ((R2 c1).ft v2 s14 F3) (Q2.ft F3) K
        · rw [if_neg c3] at K
          refine ok_iload_n dX3_tell_11 rfl rfl ?_
          refine ok_bipush (v := 120) dX3_tell_12 (by decide) ?_
          refine ok_icmp_gt (tgt := 58) dX3_tell_14 (by decide) (fun c9 => absurd c9 (nI_nlt (a := 120) (b := i) (by omega) (by omega))) (fun _ => ?_)
          refine ok_aload_n dX3_tell_17 rfl rfl ?_
          refine ok_aload_n dX3_tell_18 rfl rfl ?_
          refine ok_callV (M' := mX3_takeItem) (b' := (0, 0)) (As := [_]) (cx := 3) dX3_tell_19 iX3_takeItem w_570 (by decide) rfl (by first | exact is_lit hv (by decide) rfl | exact is_sq hv hq | exact is_row hv hq | exact is_pn hv hq (by assumption) | assumption) rfl (Nat.le_of_ble_eq_true rfl) ⟨Nat.le_of_ble_eq_true rfl, Nat.le_of_ble_eq_true rfl⟩ (Nat.le_of_ble_eq_true rfl) rfl rfl ?_
          refine sp_X3_takeItem X hv B hk Tk Rp FQ.rf (fun h2 F2 v2 T2 R2 => ?_)
          have Q2 := Q.tr F2
          have B2 : BT h2 T z := F2.bt B
          have hv := v2
          refine ok_if_ne (tgt := 28) dX3_tell_22 (by decide) (fun _ => ?_) (fun c9 => absurd c9 (by rw [if_pos c1]; decide))
          refine ok_aload_n dX3_tell_28 rfl rfl ?_
          refine ok_getI dX3_tell_29 f_X3_19 (is_lit v2 (by decide) rfl) rfl ?_
          rw [T2.1]
          refine ok_if_ne (tgt := 37) dX3_tell_32 (by decide) (fun _ => ?_) (fun c9 => absurd c9 (fun c => c2 ((nI_inj2 (b := 0) (by omega) (by omega)).mp c)))
          refine ok_aload_n dX3_tell_37 rfl rfl ?_
          refine ok_getI dX3_tell_38 f_X3_19 (is_lit v2 (by decide) rfl) rfl ?_
          refine ok_iconst (v := 3) dX3_tell_41 (by decide) ?_
          rw [T2.1]
          refine ok_icmp_eq (tgt := 48) dX3_tell_42 (by decide) (fun c9 => absurd c9 (fun c => c3 ((nI_inj2 (b := 3) (by omega) (by omega)).mp c))) (fun _ => ?_)
          refine ok_goto (tgt := 58) dX3_tell_45 (by decide) ?_
          refine ok_iconst (v := -1) dX3_tell_58 (by decide) ?_
          refine ok_aload_n dX3_tell_59 rfl rfl ?_
          refine ok_getI dX3_tell_60 f_X3_22 (is_lit v2 (by decide) rfl) rfl ?_
          rw [T2.2.1]
          refine ok_isub dX3_tell_63 ?_
          refine ok_ireturn dX3_tell_64 rfl rfl ?_
          exact K h2 Q2 v2 (fun c => absurd hng c)
    · rw [if_neg c1] at K
      refine ok_iload_n dX3_tell_11 rfl rfl ?_
      refine ok_bipush (v := 120) dX3_tell_12 (by decide) ?_
      refine ok_icmp_gt (tgt := 58) dX3_tell_14 (by decide) (fun c9 => absurd c9 (nI_nlt (a := 120) (b := i) (by omega) (by omega))) (fun _ => ?_)
      refine ok_aload_n dX3_tell_17 rfl rfl ?_
      refine ok_aload_n dX3_tell_18 rfl rfl ?_
      refine ok_callV (M' := mX3_takeItem) (b' := (0, 0)) (As := [_]) (cx := 3) dX3_tell_19 iX3_takeItem w_570 (by decide) rfl (by first | exact is_lit hv (by decide) rfl | exact is_sq hv hq | exact is_row hv hq | exact is_pn hv hq (by assumption) | assumption) rfl (Nat.le_of_ble_eq_true rfl) ⟨Nat.le_of_ble_eq_true rfl, Nat.le_of_ble_eq_true rfl⟩ (Nat.le_of_ble_eq_true rfl) rfl rfl ?_
      refine sp_X3_takeItem X hv B hk Tk Rp FQ.rf (fun h2 F2 v2 T2 R2 => ?_)
      have Q2 := Q.tr F2
      have B2 : BT h2 T z := F2.bt B
      have hv := v2
      refine ok_if_ne (tgt := 28) dX3_tell_22 (by decide) (fun c9 => absurd c9 (by rw [if_neg c1]; exact fun c => c rfl)) (fun _ => ?_)
      refine ok_goto (tgt := 58) dX3_tell_25 (by decide) ?_
      refine ok_iconst (v := -1) dX3_tell_58 (by decide) ?_
      refine ok_aload_n dX3_tell_59 rfl rfl ?_
      refine ok_getI dX3_tell_60 f_X3_22 (is_lit v2 (by decide) rfl) rfl ?_
      rw [T2.2.1]
      refine ok_isub dX3_tell_63 ?_
      refine ok_ireturn dX3_tell_64 rfl rfl ?_
      exact K h2 Q2 v2 (fun c => absurd hng c)
theorem sp_X3_tell {g : GG} {h0 h : Hp} {Post : Option Value → Hp → Prop} (X : Gx g) (hv : Inv h) {T : Nat → Nat} {z : Nat} (B : BT h T z) {n : Nat} {r : Nat → Int32} (Rp : Rep h 14 n r) (Q : FQ h0 h) (K : (∀ h', FQ h0 h' → Inv h' → (¬ (i_all T z 120 1 0 n r).1 < 0 → Rep h' 14 (i_all T z 120 1 0 n r).2.1 (i_all T z 120 1 0 n r).2.2) → Post (some (.int (i_all T z 120 1 0 n r).1)) h')) : Sp g mX3_tell [.ref 38, .ref 14] h Post := by
  show Go g mX3_tell 0 [_, _, _] [] _ _ _
  refine ok_aload_n dX3_tell_0 rfl rfl ?_
  refine ok_iconst (v := 0) dX3_tell_1 (by decide) ?_
  refine ok_putI dX3_tell_2 f_X3_25 (by first | exact is_lit hv (by decide) rfl | exact is_sq hv hq | exact is_row hv hq | exact is_pn hv hq (by assumption) | assumption) rfl rfl rfl rfl ?_
  refine ok_aload_n dX3_tell_5 rfl rfl ?_
  refine ok_callV (M' := mX3_look) (b' := (0, 0)) (As := []) (cx := 3) dX3_tell_6 iX3_look w_556 (by decide) rfl (by first | exact is_lit hv (by decide) rfl | exact is_sq hv hq | exact is_row hv hq | exact is_pn hv hq (by assumption) | assumption) rfl (Nat.le_of_ble_eq_true rfl) ⟨Nat.le_of_ble_eq_true rfl, Nat.le_of_ble_eq_true rfl⟩ (Nat.le_of_ble_eq_true rfl) rfl rfl ?_
  have F0 : FT h (uI h 38 4 0) := FT.rf.u (by decide)
  refine sp_X3_look (h := uI h 38 4 0) hv (F0.bt B) (Nat.zero_le z) at_uI (fun h1 F1 T1 => ?_)
  have F2 := F0.tr F1
  refine ok_iconst (v := 1) dX3_tell_9 (by decide) ?_
  refine ok_istore_n (lo' := [_, _, _]) dX3_tell_10 rfl (Nat.le_of_ble_eq_true rfl) rfl rfl ?_
  exact lp_X3_tell_11 X 120 1 h1 0 n r rfl (F2.inv hv) (F2.bt B) (Nat.zero_le z) T1 (Rp.ft hv s14 F2) (Q.ft F2) K
/-- what stays when a text has been told -/
def FS (h h' : Hp) : Prop := h'.2.1 = h.2.1 ∧ h'.2.2.2 = h.2.2.2 ∧ ∀ a, (a < 2 ∨ 26 ≤ a) → h'.2.2.1 a = h.2.2.1 a ∧ (a ≠ 38 → h'.1 a = h.1 a)
theorem FQ.fs {h h' : Hp} (Q : FQ h h') : FS h (uI h' 38 1 0) := ⟨Q.1, Q.2.1, fun a ha => ⟨(Q.2.2.1 a (by omega)).1, fun h38 => (funext fun _ => if_neg (fun e => h38 e.1)).trans ((Q.2.2.1 a (by omega)).2 h38)⟩⟩
theorem Rep.fq {h h' : Hp} {n : Nat} {r : Nat → Int32} (R : Rep h 2 n r) (hv : Inv h) (Q : FQ h h') : Rep h' 2 n r := by
  obtain ⟨h1, h2, h3, h4, h5⟩ := R
  have eo : h'.1 2 = h.1 2 := (Q.2.2.1 2 (by decide)).2 (by decide)
  refine ⟨h1, h2, by show h'.1 2 6 = _; rw [eo]; exact h3, fun k hk => by show h'.1 2 k = _; rw [eo]; exact h4 k hk, fun p f hp hf => ?_⟩
  have hi := pn_in hv s2 (j := p) (by omega)
  have ep : pn h' 2 p = pn h 2 p := by unfold pn hR; rw [(Q.2.2.1 3 (by decide)).1]
  show h'.1 (pn h' 2 p) f = _
  rw [ep, (Q.2.2.1 _ (by omega)).2 (by omega)]
  exact h5 p f hp hf
theorem FrI.fq {h h' : Hp} (F : FrI 14 h h') : FQ h h' := ⟨by rw [F.1], by rw [F.1], fun a ha => ⟨by rw [F.1], fun _ => F.2 a (by omega)⟩, by rw [F.2 38 (by decide)]⟩
theorem Rep.fr38 {h : Hp} {q n k : Nat} {r : Nat → Int32} {v : Int32} (R : Rep h q n r) (hv : Inv h) (hq : Sqr q) : Rep (uI h 38 k v) q n r := by
  obtain ⟨h1, h2, h3, h4, h5⟩ := R
  have q38 : q < 38 := by rcases hq with rfl | rfl | rfl <;> decide
  refine ⟨h1, h2, (if_neg (by omega)).trans h3, fun j hj => (if_neg (by omega)).trans (h4 j hj), fun p f hp hf => ?_⟩
  have hi := pn_in hv hq (j := p) (by omega)
  have hne : pn h q p ≠ 38 := by rcases hq with rfl | rfl | rfl <;> omega
  exact (if_neg (fun e => hne e.1)).trans (h5 p f hp hf)
theorem sp_X4_square {g : GG} {h : Hp} {Post : Option Value → Hp → Prop} {n : Nat} {r : Nat → Int32} (S : Hs h n r) (X : Gx g) {T : Nat → Nat} {z : Nat} (B : BT h T z) (K0 : (i_all T z 120 1 0 n r).1 < 0 → ∀ h', FS h h' → Inv h' → hI h' 38 1 = 0 → Rep h' 2 n r → Post (some (.int (i_all T z 120 1 0 n r).1)) h') (K1 : ¬ (i_all T z 120 1 0 n r).1 < 0 → ∀ h', FS h h' → Inv h' → hI h' 38 1 = 0 → Rep h' 2 (i_all T z 120 1 0 n r).2.1 (i_all T z 120 1 0 n r).2.2 → Post (some (.int (i_all T z 120 1 0 n r).1)) h') : Sp g mX4_square [.ref 0] h Post := by
  show Go g mX4_square 0 [_, _] [] _ _ _
  have hv := S.1
  have G9 := all_rg (T := T) B.1 120 1 0 n r (Nat.zero_le z) S.2.2
  refine ok_aload_n dX4_square_0 rfl rfl ?_
  refine ok_getR dX4_square_1 f_X4_20 (by first | exact is_lit hv (by decide) rfl | exact is_sq hv hq | exact is_row hv hq | exact is_pn hv hq (by assumption) | assumption) rfl (by first | exact rf hv rfl | exact rf_row hv hq | assumption) ?_
  refine ok_aload_n dX4_square_4 rfl rfl ?_
  refine ok_getR dX4_square_5 f_X4_16 (by first | exact is_lit hv (by decide) rfl | exact is_sq hv hq | exact is_row hv hq | exact is_pn hv hq (by assumption) | assumption) rfl (by first | exact rf hv rfl | exact rf_row hv hq | assumption) ?_
  refine ok_callV (M' := mX2_become) (b' := (0, 0)) (As := [_]) (cx := 2) dX4_square_8 iX2_become w_405 (by decide) rfl (by first | exact is_lit hv (by decide) rfl | exact is_sq hv hq | exact is_row hv hq | exact is_pn hv hq (by assumption) | assumption) rfl (Nat.le_of_ble_eq_true rfl) ⟨Nat.le_of_ble_eq_true rfl, Nat.le_of_ble_eq_true rfl⟩ (Nat.le_of_ble_eq_true rfl) rfl rfl ?_
  refine sp_X2_become (q := 14) (o := 2) (n := n) (r := r) S.1 s14 s2 (by decide) S.2.1 S.2.2.2.2.2.1 (fun h1 F1 R1 => ?_)
  have hv1 : Inv h1 := S.1.of F1.1
  have hv := hv1
  refine ok_aload_n dX4_square_11 rfl rfl ?_
  refine ok_getR dX4_square_12 f_X4_33 (by first | exact is_lit hv (by decide) rfl | exact is_sq hv hq | exact is_row hv hq | exact is_pn hv hq (by assumption) | assumption) rfl (by first | exact rf hv rfl | exact rf_row hv hq | assumption) ?_
  refine ok_aload_n dX4_square_15 rfl rfl ?_
  refine ok_getR dX4_square_16 f_X4_20 (by first | exact is_lit hv (by decide) rfl | exact is_sq hv hq | exact is_row hv hq | exact is_pn hv hq (by assumption) | assumption) rfl (by first | exact rf hv rfl | exact rf_row hv hq | assumption) ?_
  refine ok_callV (M' := mX3_tell) (b' := (0, 0)) (As := [_]) (cx := 3) dX4_square_19 iX3_tell w_552 (by decide) rfl (by first | exact is_lit hv (by decide) rfl | exact is_sq hv hq | exact is_row hv hq | exact is_pn hv hq (by assumption) | assumption) rfl (Nat.le_of_ble_eq_true rfl) ⟨Nat.le_of_ble_eq_true rfl, Nat.le_of_ble_eq_true rfl⟩ (Nat.le_of_ble_eq_true rfl) rfl rfl ?_
  refine sp_X3_tell X hv1 (F1.fq.bt B) R1 F1.fq (fun h2 Q2 v2 R2 => ?_)
  have hv := v2
  refine ok_istore_n (lo' := [_, _]) dX4_square_22 rfl (Nat.le_of_ble_eq_true rfl) rfl rfl ?_
  refine ok_aload_n dX4_square_23 rfl rfl ?_
  refine ok_getR dX4_square_24 f_X4_33 (by first | exact is_lit hv (by decide) rfl | exact is_sq hv hq | exact is_row hv hq | exact is_pn hv hq (by assumption) | assumption) rfl (by first | exact rf hv rfl | exact rf_row hv hq | assumption) ?_
  refine ok_iconst (v := 0) dX4_square_27 (by decide) ?_
  refine ok_putI dX4_square_28 f_X4_203 (by first | exact is_lit hv (by decide) rfl | exact is_sq hv hq | exact is_row hv hq | exact is_pn hv hq (by assumption) | assumption) rfl rfl rfl rfl ?_
  refine ok_iload_n dX4_square_31 rfl rfl ?_
  refine ok_if_lt (tgt := 46) dX4_square_32 (by decide) (fun c_32 => ?_) (fun c_32 => ?_)
  · refine ok_iload_n dX4_square_46 rfl rfl ?_
    refine ok_ireturn dX4_square_47 rfl rfl ?_
    first | exact K1 c_32 h3 E1 (u1.of F3.1) E2 R4 | exact K0 c_32 _ Q2.fs v2 at_uI (Rep.fr38 (S.2.1.fq S.1 Q2) v2 s2)
  · refine ok_aload_n dX4_square_35 rfl rfl ?_
    refine ok_getR dX4_square_36 f_X4_16 (by first | exact is_lit hv (by decide) rfl | exact is_sq hv hq | exact is_row hv hq | exact is_pn hv hq (by assumption) | assumption) rfl (by first | exact rf hv rfl | exact rf_row hv hq | assumption) ?_
    refine ok_aload_n dX4_square_39 rfl rfl ?_
    refine ok_getR dX4_square_40 f_X4_20 (by first | exact is_lit hv (by decide) rfl | exact is_sq hv hq | exact is_row hv hq | exact is_pn hv hq (by assumption) | assumption) rfl (by first | exact rf hv rfl | exact rf_row hv hq | assumption) ?_
    refine ok_callV (M' := mX2_become) (b' := (0, 0)) (As := [_]) (cx := 2) dX4_square_43 iX2_become w_405 (by decide) rfl (by first | exact is_lit hv (by decide) rfl | exact is_sq hv hq | exact is_row hv hq | exact is_pn hv hq (by assumption) | assumption) rfl (Nat.le_of_ble_eq_true rfl) ⟨Nat.le_of_ble_eq_true rfl, Nat.le_of_ble_eq_true rfl⟩ (Nat.le_of_ble_eq_true rfl) rfl rfl ?_
    have u1 : Inv (uI h2 38 1 0) := v2
    have R3 : Rep (uI h2 38 1 0) 14 (i_all T z 120 1 0 n r).2.1 (i_all T z 120 1 0 n r).2.2 := (R2 c_32).fr38 v2 s14
    refine sp_X2_become (h := uI h2 38 1 0) (q := 2) (o := 14) (n := (i_all T z 120 1 0 n r).2.1) (r := (i_all T z 120 1 0 n r).2.2) u1 s2 s14 (by decide) R3 G9.2.2.2.1 (fun h3 F3 R4 => ?_)
    have E1 : FS h h3 := ⟨by rw [F3.1]; exact Q2.fs.1, by rw [F3.1]; exact Q2.fs.2.1, fun a ha => ⟨by rw [F3.1]; exact (Q2.fs.2.2 a ha).1, fun h38 => (F3.2 a (by omega)).trans ((Q2.fs.2.2 a ha).2 h38)⟩⟩
    have E2 : hI h3 38 1 = 0 := by show h3.1 38 1 = 0; rw [F3.2 38 (by decide)]; exact at_uI
    refine ok_iload_n dX4_square_46 rfl rfl ?_
    refine ok_ireturn dX4_square_47 rfl rfl ?_
    first | exact K1 c_32 h3 E1 (u1.of F3.1) E2 R4 | exact K0 c_32 _ Q2.fs v2 at_uI (Rep.fr38 (S.2.1.fq S.1 Q2) v2 s2)
