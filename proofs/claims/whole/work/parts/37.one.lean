/-! ===== the text: one more, any item, all of it ===== -/
theorem lp_X3_takePerson_26 {g : GG} {h0 h : Hp} {Post : Option Value → Hp → Prop} (X : Gx g) (hv : Inv h) {T : Nat → Nat} {z : Nat} (B : BT h T z) {k : Nat} (hk : k ≤ z) (Tk : Tok h T z k) {n : Nat} (hn : n < 10) {r v : Nat → Int32} (Rp : Rep h 14 (n + 1) (w_join r n v)) (Q : FQ h0 h) {y : Int32} {p : Nat} (hp : pn h 14 n = p) (vd : v 1 = nI 5) (K1 : ∀ h', FQ h0 h' → Inv h' → BT h' T z → (i_opt T z 6 1000 5 k).2.1 ≤ z → Tok h' T z (i_opt T z 6 1000 5 k).2.1 → (i_opt T z 6 1000 5 k).1 = true → Rep h' 14 (n + 1) (w_join r n (up1 v 1 (nI (i_opt T z 6 1000 5 k).2.2))) → pn h' 14 n = p → Go g mX3_takePerson 59 [some (.ref 38), some (.ref 14), some (.int y), some (.ref p)] [] h' (0, 0) Post) (K0 : ∀ h', FQ h0 h' → Inv h' → Tok h' T z (i_opt T z 6 1000 5 k).2.1 → (i_opt T z 6 1000 5 k).1 = false → Post (some (.int 0)) h') : Go g mX3_takePerson 26 [some (.ref 38), some (.ref 14), some (.int y), some (.ref p)] [] h (0, 0) Post := by
  by_cases c : wis T z k 6 = true
  · by_cases c2 : num T z (tB T z k) 1000 = true
    · refine ok_aload_n dX3_takePerson_26 rfl rfl ?_
      refine ok_ldcS (q := 3006) dX3_takePerson_27 (fun U hU => (X U hU).2.2.2.1 6 (by decide)) ?_
      refine ok_callV (M' := mX3_isWord) (b' := (0, 0)) (As := [_]) (cx := 3) dX3_takePerson_29 iX3_isWord w_587 (by decide) rfl (by first | exact is_lit hv (by decide) rfl | exact is_sq hv hq | exact is_row hv hq | exact is_pn hv hq (by assumption) | assumption) rfl (Nat.le_of_ble_eq_true rfl) ⟨Nat.le_of_ble_eq_true rfl, Nat.le_of_ble_eq_true rfl⟩ (Nat.le_of_ble_eq_true rfl) rfl rfl ?_
      refine sp_X3_isWord X (i := 6) (by decide) hv B hk Tk ?_
      refine ok_if_eq (tgt := 59) dX3_takePerson_32 (by decide) (fun c9 => absurd c9 (by rw [if_pos c]; decide)) (fun _ => ?_)
      refine ok_aload_n dX3_takePerson_35 rfl rfl ?_
      refine ok_callV (M' := mX3_look) (b' := (0, 0)) (As := []) (cx := 3) dX3_takePerson_36 iX3_look w_556 (by decide) rfl (by first | exact is_lit hv (by decide) rfl | exact is_sq hv hq | exact is_row hv hq | exact is_pn hv hq (by assumption) | assumption) rfl (Nat.le_of_ble_eq_true rfl) ⟨Nat.le_of_ble_eq_true rfl, Nat.le_of_ble_eq_true rfl⟩ (Nat.le_of_ble_eq_true rfl) rfl rfl ?_
      refine sp_X3_look hv B (tB_le hk).2 Tk.2.2.1 (fun h1 F1 Tk => ?_)
      have hk := (tB_le (T := T) hk).2
      have Q := Q.ft F1
      have Rp := Rp.ft hv s14 F1
      have hv := F1.inv hv
      have B := F1.bt B
      have hp := (pn_ft F1).trans hp
      refine ok_aload_n dX3_takePerson_39 rfl rfl ?_
      refine ok_sipush (v := 999) dX3_takePerson_40 (by decide) ?_
      refine ok_callV (M' := mX3_isNumber) (b' := (0, 0)) (As := [_]) (cx := 3) dX3_takePerson_43 iX3_isNumber w_645 (by decide) rfl (by first | exact is_lit hv (by decide) rfl | exact is_sq hv hq | exact is_row hv hq | exact is_pn hv hq (by assumption) | assumption) rfl (Nat.le_of_ble_eq_true rfl) ⟨Nat.le_of_ble_eq_true rfl, Nat.le_of_ble_eq_true rfl⟩ (Nat.le_of_ble_eq_true rfl) rfl rfl ?_
      refine sp_X3_isNumber hv B hk Tk (M := 1000) (by decide) rfl ?_
      refine ok_if_ne (tgt := 51) dX3_takePerson_46 (by decide) (fun _ => ?_) (fun c9 => absurd c9 (by rw [if_pos c2]; decide))
      refine ok_aload_n dX3_takePerson_51 rfl rfl ?_
      refine ok_aload_n dX3_takePerson_52 rfl rfl ?_
      refine ok_callV (M' := mX3_takeNumber) (b' := (0, 0)) (As := []) (cx := 3) dX3_takePerson_53 iX3_takeNumber w_649 (by decide) rfl (by first | exact is_lit hv (by decide) rfl | exact is_sq hv hq | exact is_row hv hq | exact is_pn hv hq (by assumption) | assumption) rfl (Nat.le_of_ble_eq_true rfl) ⟨Nat.le_of_ble_eq_true rfl, Nat.le_of_ble_eq_true rfl⟩ (Nat.le_of_ble_eq_true rfl) rfl rfl ?_
      refine sp_X3_takeNumber hv B hk Tk (of_decide_eq_true c2).1 (fun h1 F1 Tk => ?_)
      have hk := (tB_le (T := T) hk).2
      have Q := Q.ft F1
      have Rp := Rp.ft hv s14 F1
      have hv := F1.inv hv
      have B := F1.bt B
      have hp := (pn_ft F1).trans hp
      refine ok_putI dX3_takePerson_56 f_X3_98 (by rw [← hp]; exact is_pn hv s14 hn) rfl rfl rfl rfl ?_
      have FU : Fr 14 h1 (uI h1 p 1 (nI (tN T z (tB T z k)))) := Fr.rf.u (by have := pn_in hv s14 (j := n) hn; omega) (by have := pn_in hv s14 (j := n) hn; omega)
      have eR : i_opt T z 6 1000 5 k = (true, tB T z (tB T z k), tN T z (tB T z k)) := (if_pos c).trans (if_pos c2)
      have R9 : Rep (uI h1 p 1 (nI (tN T z (tB T z k)))) 14 (n + 1) (w_join r n (up1 v 1 (nI (tN T z (tB T z k))))) := by
        rw [← join_up (by decide), ← hp]
        exact rep_uP hv s14 (by omega) (by decide) Rp
      rw [eR] at K1
      exact K1 _ (Q.fr FU) hv (B.fr FU) hk (Tk.fr FU) rfl R9 hp
    · refine ok_aload_n dX3_takePerson_26 rfl rfl ?_
      refine ok_ldcS (q := 3006) dX3_takePerson_27 (fun U hU => (X U hU).2.2.2.1 6 (by decide)) ?_
      refine ok_callV (M' := mX3_isWord) (b' := (0, 0)) (As := [_]) (cx := 3) dX3_takePerson_29 iX3_isWord w_587 (by decide) rfl (by first | exact is_lit hv (by decide) rfl | exact is_sq hv hq | exact is_row hv hq | exact is_pn hv hq (by assumption) | assumption) rfl (Nat.le_of_ble_eq_true rfl) ⟨Nat.le_of_ble_eq_true rfl, Nat.le_of_ble_eq_true rfl⟩ (Nat.le_of_ble_eq_true rfl) rfl rfl ?_
      refine sp_X3_isWord X (i := 6) (by decide) hv B hk Tk ?_
      refine ok_if_eq (tgt := 59) dX3_takePerson_32 (by decide) (fun c9 => absurd c9 (by rw [if_pos c]; decide)) (fun _ => ?_)
      refine ok_aload_n dX3_takePerson_35 rfl rfl ?_
      refine ok_callV (M' := mX3_look) (b' := (0, 0)) (As := []) (cx := 3) dX3_takePerson_36 iX3_look w_556 (by decide) rfl (by first | exact is_lit hv (by decide) rfl | exact is_sq hv hq | exact is_row hv hq | exact is_pn hv hq (by assumption) | assumption) rfl (Nat.le_of_ble_eq_true rfl) ⟨Nat.le_of_ble_eq_true rfl, Nat.le_of_ble_eq_true rfl⟩ (Nat.le_of_ble_eq_true rfl) rfl rfl ?_
      refine sp_X3_look hv B (tB_le hk).2 Tk.2.2.1 (fun h1 F1 Tk => ?_)
      have hk := (tB_le (T := T) hk).2
      have Q := Q.ft F1
      have Rp := Rp.ft hv s14 F1
      have hv := F1.inv hv
      have B := F1.bt B
      have hp := (pn_ft F1).trans hp
      refine ok_aload_n dX3_takePerson_39 rfl rfl ?_
      refine ok_sipush (v := 999) dX3_takePerson_40 (by decide) ?_
      refine ok_callV (M' := mX3_isNumber) (b' := (0, 0)) (As := [_]) (cx := 3) dX3_takePerson_43 iX3_isNumber w_645 (by decide) rfl (by first | exact is_lit hv (by decide) rfl | exact is_sq hv hq | exact is_row hv hq | exact is_pn hv hq (by assumption) | assumption) rfl (Nat.le_of_ble_eq_true rfl) ⟨Nat.le_of_ble_eq_true rfl, Nat.le_of_ble_eq_true rfl⟩ (Nat.le_of_ble_eq_true rfl) rfl rfl ?_
      refine sp_X3_isNumber hv B hk Tk (M := 1000) (by decide) rfl ?_
      refine ok_if_ne (tgt := 51) dX3_takePerson_46 (by decide) (fun c9 => absurd c9 (by rw [if_neg c2]; exact fun c => c rfl)) (fun _ => ?_)
      refine ok_iconst (v := 0) dX3_takePerson_49 (by decide) ?_
      refine ok_ireturn dX3_takePerson_50 rfl rfl ?_
      have eR : i_opt T z 6 1000 5 k = (false, tB T z k, 0) := (if_pos c).trans (if_neg c2)
      rw [eR] at K0
      exact K0 _ Q hv Tk rfl
  · refine ok_aload_n dX3_takePerson_26 rfl rfl ?_
    refine ok_ldcS (q := 3006) dX3_takePerson_27 (fun U hU => (X U hU).2.2.2.1 6 (by decide)) ?_
    refine ok_callV (M' := mX3_isWord) (b' := (0, 0)) (As := [_]) (cx := 3) dX3_takePerson_29 iX3_isWord w_587 (by decide) rfl (by first | exact is_lit hv (by decide) rfl | exact is_sq hv hq | exact is_row hv hq | exact is_pn hv hq (by assumption) | assumption) rfl (Nat.le_of_ble_eq_true rfl) ⟨Nat.le_of_ble_eq_true rfl, Nat.le_of_ble_eq_true rfl⟩ (Nat.le_of_ble_eq_true rfl) rfl rfl ?_
    refine sp_X3_isWord X (i := 6) (by decide) hv B hk Tk ?_
    refine ok_if_eq (tgt := 59) dX3_takePerson_32 (by decide) (fun _ => ?_) (fun c9 => absurd (if_neg c) c9)
    have eR : i_opt T z 6 1000 5 k = (true, k, 5) := if_neg c
    rw [eR, up1_id vd] at K1
    exact K1 _ Q hv B hk Tk rfl Rp hp
theorem lp_X3_takePerson_59 {g : GG} {h0 h : Hp} {Post : Option Value → Hp → Prop} (X : Gx g) (hv : Inv h) {T : Nat → Nat} {z : Nat} (B : BT h T z) {k : Nat} (hk : k ≤ z) (Tk : Tok h T z k) {n : Nat} (hn : n < 10) {r v : Nat → Int32} (Rp : Rep h 14 (n + 1) (w_join r n v)) (Q : FQ h0 h) {y : Int32} {p : Nat} (hp : pn h 14 n = p) (vd : v 2 = nI 3) (K1 : ∀ h', FQ h0 h' → Inv h' → BT h' T z → (i_opt T z 7 100 3 k).2.1 ≤ z → Tok h' T z (i_opt T z 7 100 3 k).2.1 → (i_opt T z 7 100 3 k).1 = true → Rep h' 14 (n + 1) (w_join r n (up1 v 2 (nI (i_opt T z 7 100 3 k).2.2))) → pn h' 14 n = p → Go g mX3_takePerson 91 [some (.ref 38), some (.ref 14), some (.int y), some (.ref p)] [] h' (0, 0) Post) (K0 : ∀ h', FQ h0 h' → Inv h' → Tok h' T z (i_opt T z 7 100 3 k).2.1 → (i_opt T z 7 100 3 k).1 = false → Post (some (.int 0)) h') : Go g mX3_takePerson 59 [some (.ref 38), some (.ref 14), some (.int y), some (.ref p)] [] h (0, 0) Post := by
  by_cases c : wis T z k 7 = true
  · by_cases c2 : num T z (tB T z k) 100 = true
    · refine ok_aload_n dX3_takePerson_59 rfl rfl ?_
      refine ok_ldcS (q := 3007) dX3_takePerson_60 (fun U hU => (X U hU).2.2.2.1 7 (by decide)) ?_
      refine ok_callV (M' := mX3_isWord) (b' := (0, 0)) (As := [_]) (cx := 3) dX3_takePerson_62 iX3_isWord w_587 (by decide) rfl (by first | exact is_lit hv (by decide) rfl | exact is_sq hv hq | exact is_row hv hq | exact is_pn hv hq (by assumption) | assumption) rfl (Nat.le_of_ble_eq_true rfl) ⟨Nat.le_of_ble_eq_true rfl, Nat.le_of_ble_eq_true rfl⟩ (Nat.le_of_ble_eq_true rfl) rfl rfl ?_
      refine sp_X3_isWord X (i := 7) (by decide) hv B hk Tk ?_
      refine ok_if_eq (tgt := 91) dX3_takePerson_65 (by decide) (fun c9 => absurd c9 (by rw [if_pos c]; decide)) (fun _ => ?_)
      refine ok_aload_n dX3_takePerson_68 rfl rfl ?_
      refine ok_callV (M' := mX3_look) (b' := (0, 0)) (As := []) (cx := 3) dX3_takePerson_69 iX3_look w_556 (by decide) rfl (by first | exact is_lit hv (by decide) rfl | exact is_sq hv hq | exact is_row hv hq | exact is_pn hv hq (by assumption) | assumption) rfl (Nat.le_of_ble_eq_true rfl) ⟨Nat.le_of_ble_eq_true rfl, Nat.le_of_ble_eq_true rfl⟩ (Nat.le_of_ble_eq_true rfl) rfl rfl ?_
      refine sp_X3_look hv B (tB_le hk).2 Tk.2.2.1 (fun h1 F1 Tk => ?_)
      have hk := (tB_le (T := T) hk).2
      have Q := Q.ft F1
      have Rp := Rp.ft hv s14 F1
      have hv := F1.inv hv
      have B := F1.bt B
      have hp := (pn_ft F1).trans hp
      refine ok_aload_n dX3_takePerson_72 rfl rfl ?_
      refine ok_bipush (v := 99) dX3_takePerson_73 (by decide) ?_
      refine ok_callV (M' := mX3_isNumber) (b' := (0, 0)) (As := [_]) (cx := 3) dX3_takePerson_75 iX3_isNumber w_645 (by decide) rfl (by first | exact is_lit hv (by decide) rfl | exact is_sq hv hq | exact is_row hv hq | exact is_pn hv hq (by assumption) | assumption) rfl (Nat.le_of_ble_eq_true rfl) ⟨Nat.le_of_ble_eq_true rfl, Nat.le_of_ble_eq_true rfl⟩ (Nat.le_of_ble_eq_true rfl) rfl rfl ?_
      refine sp_X3_isNumber hv B hk Tk (M := 100) (by decide) rfl ?_
      refine ok_if_ne (tgt := 83) dX3_takePerson_78 (by decide) (fun _ => ?_) (fun c9 => absurd c9 (by rw [if_pos c2]; decide))
      refine ok_aload_n dX3_takePerson_83 rfl rfl ?_
      refine ok_aload_n dX3_takePerson_84 rfl rfl ?_
      refine ok_callV (M' := mX3_takeNumber) (b' := (0, 0)) (As := []) (cx := 3) dX3_takePerson_85 iX3_takeNumber w_649 (by decide) rfl (by first | exact is_lit hv (by decide) rfl | exact is_sq hv hq | exact is_row hv hq | exact is_pn hv hq (by assumption) | assumption) rfl (Nat.le_of_ble_eq_true rfl) ⟨Nat.le_of_ble_eq_true rfl, Nat.le_of_ble_eq_true rfl⟩ (Nat.le_of_ble_eq_true rfl) rfl rfl ?_
      refine sp_X3_takeNumber hv B hk Tk (of_decide_eq_true c2).1 (fun h1 F1 Tk => ?_)
      have hk := (tB_le (T := T) hk).2
      have Q := Q.ft F1
      have Rp := Rp.ft hv s14 F1
      have hv := F1.inv hv
      have B := F1.bt B
      have hp := (pn_ft F1).trans hp
      refine ok_putI dX3_takePerson_88 f_X3_104 (by rw [← hp]; exact is_pn hv s14 hn) rfl rfl rfl rfl ?_
      have FU : Fr 14 h1 (uI h1 p 2 (nI (tN T z (tB T z k)))) := Fr.rf.u (by have := pn_in hv s14 (j := n) hn; omega) (by have := pn_in hv s14 (j := n) hn; omega)
      have eR : i_opt T z 7 100 3 k = (true, tB T z (tB T z k), tN T z (tB T z k)) := (if_pos c).trans (if_pos c2)
      have R9 : Rep (uI h1 p 2 (nI (tN T z (tB T z k)))) 14 (n + 1) (w_join r n (up1 v 2 (nI (tN T z (tB T z k))))) := by
        rw [← join_up (by decide), ← hp]
        exact rep_uP hv s14 (by omega) (by decide) Rp
      rw [eR] at K1
      exact K1 _ (Q.fr FU) hv (B.fr FU) hk (Tk.fr FU) rfl R9 hp
    · refine ok_aload_n dX3_takePerson_59 rfl rfl ?_
      refine ok_ldcS (q := 3007) dX3_takePerson_60 (fun U hU => (X U hU).2.2.2.1 7 (by decide)) ?_
      refine ok_callV (M' := mX3_isWord) (b' := (0, 0)) (As := [_]) (cx := 3) dX3_takePerson_62 iX3_isWord w_587 (by decide) rfl (by first | exact is_lit hv (by decide) rfl | exact is_sq hv hq | exact is_row hv hq | exact is_pn hv hq (by assumption) | assumption) rfl (Nat.le_of_ble_eq_true rfl) ⟨Nat.le_of_ble_eq_true rfl, Nat.le_of_ble_eq_true rfl⟩ (Nat.le_of_ble_eq_true rfl) rfl rfl ?_
      refine sp_X3_isWord X (i := 7) (by decide) hv B hk Tk ?_
      refine ok_if_eq (tgt := 91) dX3_takePerson_65 (by decide) (fun c9 => absurd c9 (by rw [if_pos c]; decide)) (fun _ => ?_)
      refine ok_aload_n dX3_takePerson_68 rfl rfl ?_
      refine ok_callV (M' := mX3_look) (b' := (0, 0)) (As := []) (cx := 3) dX3_takePerson_69 iX3_look w_556 (by decide) rfl (by first | exact is_lit hv (by decide) rfl | exact is_sq hv hq | exact is_row hv hq | exact is_pn hv hq (by assumption) | assumption) rfl (Nat.le_of_ble_eq_true rfl) ⟨Nat.le_of_ble_eq_true rfl, Nat.le_of_ble_eq_true rfl⟩ (Nat.le_of_ble_eq_true rfl) rfl rfl ?_
      refine sp_X3_look hv B (tB_le hk).2 Tk.2.2.1 (fun h1 F1 Tk => ?_)
      have hk := (tB_le (T := T) hk).2
      have Q := Q.ft F1
      have Rp := Rp.ft hv s14 F1
      have hv := F1.inv hv
      have B := F1.bt B
      have hp := (pn_ft F1).trans hp
      refine ok_aload_n dX3_takePerson_72 rfl rfl ?_
      refine ok_bipush (v := 99) dX3_takePerson_73 (by decide) ?_
      refine ok_callV (M' := mX3_isNumber) (b' := (0, 0)) (As := [_]) (cx := 3) dX3_takePerson_75 iX3_isNumber w_645 (by decide) rfl (by first | exact is_lit hv (by decide) rfl | exact is_sq hv hq | exact is_row hv hq | exact is_pn hv hq (by assumption) | assumption) rfl (Nat.le_of_ble_eq_true rfl) ⟨Nat.le_of_ble_eq_true rfl, Nat.le_of_ble_eq_true rfl⟩ (Nat.le_of_ble_eq_true rfl) rfl rfl ?_
      refine sp_X3_isNumber hv B hk Tk (M := 100) (by decide) rfl ?_
      refine ok_if_ne (tgt := 83) dX3_takePerson_78 (by decide) (fun c9 => absurd c9 (by rw [if_neg c2]; exact fun c => c rfl)) (fun _ => ?_)
      refine ok_iconst (v := 0) dX3_takePerson_81 (by decide) ?_
      refine ok_ireturn dX3_takePerson_82 rfl rfl ?_
      have eR : i_opt T z 7 100 3 k = (false, tB T z k, 0) := (if_pos c).trans (if_neg c2)
      rw [eR] at K0
      exact K0 _ Q hv Tk rfl
  · refine ok_aload_n dX3_takePerson_59 rfl rfl ?_
    refine ok_ldcS (q := 3007) dX3_takePerson_60 (fun U hU => (X U hU).2.2.2.1 7 (by decide)) ?_
    refine ok_callV (M' := mX3_isWord) (b' := (0, 0)) (As := [_]) (cx := 3) dX3_takePerson_62 iX3_isWord w_587 (by decide) rfl (by first | exact is_lit hv (by decide) rfl | exact is_sq hv hq | exact is_row hv hq | exact is_pn hv hq (by assumption) | assumption) rfl (Nat.le_of_ble_eq_true rfl) ⟨Nat.le_of_ble_eq_true rfl, Nat.le_of_ble_eq_true rfl⟩ (Nat.le_of_ble_eq_true rfl) rfl rfl ?_
    refine sp_X3_isWord X (i := 7) (by decide) hv B hk Tk ?_
    refine ok_if_eq (tgt := 91) dX3_takePerson_65 (by decide) (fun _ => ?_) (fun c9 => absurd (if_neg c) c9)
    have eR : i_opt T z 7 100 3 k = (true, k, 3) := if_neg c
    rw [eR, up1_id vd] at K1
    exact K1 _ Q hv B hk Tk rfl Rp hp
theorem lp_X3_takePerson_91 {g : GG} {h0 h : Hp} {Post : Option Value → Hp → Prop} (X : Gx g) (hv : Inv h) {T : Nat → Nat} {z : Nat} (B : BT h T z) {k : Nat} (hk : k ≤ z) (Tk : Tok h T z k) {n : Nat} (hn : n < 10) {r v : Nat → Int32} (Rp : Rep h 14 (n + 1) (w_join r n v)) (Q : FQ h0 h) {y : Int32} {p : Nat} (hp : pn h 14 n = p) (vd : v 3 = nI 0) (K1 : ∀ h', FQ h0 h' → Inv h' → BT h' T z → (i_opt T z 8 100 0 k).2.1 ≤ z → Tok h' T z (i_opt T z 8 100 0 k).2.1 → (i_opt T z 8 100 0 k).1 = true → Rep h' 14 (n + 1) (w_join r n (up1 v 3 (nI (i_opt T z 8 100 0 k).2.2))) → pn h' 14 n = p → Go g mX3_takePerson 123 [some (.ref 38), some (.ref 14), some (.int y), some (.ref p)] [] h' (0, 0) Post) (K0 : ∀ h', FQ h0 h' → Inv h' → Tok h' T z (i_opt T z 8 100 0 k).2.1 → (i_opt T z 8 100 0 k).1 = false → Post (some (.int 0)) h') : Go g mX3_takePerson 91 [some (.ref 38), some (.ref 14), some (.int y), some (.ref p)] [] h (0, 0) Post := by
  by_cases c : wis T z k 8 = true
  · by_cases c2 : num T z (tB T z k) 100 = true
    · refine ok_aload_n dX3_takePerson_91 rfl rfl ?_
      refine ok_ldcS (q := 3008) dX3_takePerson_92 (fun U hU => (X U hU).2.2.2.1 8 (by decide)) ?_
      refine ok_callV (M' := mX3_isWord) (b' := (0, 0)) (As := [_]) (cx := 3) dX3_takePerson_94 iX3_isWord w_587 (by decide) rfl (by first | exact is_lit hv (by decide) rfl | exact is_sq hv hq | exact is_row hv hq | exact is_pn hv hq (by assumption) | assumption) rfl (Nat.le_of_ble_eq_true rfl) ⟨Nat.le_of_ble_eq_true rfl, Nat.le_of_ble_eq_true rfl⟩ (Nat.le_of_ble_eq_true rfl) rfl rfl ?_
      refine sp_X3_isWord X (i := 8) (by decide) hv B hk Tk ?_
      refine ok_if_eq (tgt := 123) dX3_takePerson_97 (by decide) (fun c9 => absurd c9 (by rw [if_pos c]; decide)) (fun _ => ?_)
      refine ok_aload_n dX3_takePerson_100 rfl rfl ?_
      refine ok_callV (M' := mX3_look) (b' := (0, 0)) (As := []) (cx := 3) dX3_takePerson_101 iX3_look w_556 (by decide) rfl (by first | exact is_lit hv (by decide) rfl | exact is_sq hv hq | exact is_row hv hq | exact is_pn hv hq (by assumption) | assumption) rfl (Nat.le_of_ble_eq_true rfl) ⟨Nat.le_of_ble_eq_true rfl, Nat.le_of_ble_eq_true rfl⟩ (Nat.le_of_ble_eq_true rfl) rfl rfl ?_
      refine sp_X3_look hv B (tB_le hk).2 Tk.2.2.1 (fun h1 F1 Tk => ?_)
      have hk := (tB_le (T := T) hk).2
      have Q := Q.ft F1
      have Rp := Rp.ft hv s14 F1
      have hv := F1.inv hv
      have B := F1.bt B
      have hp := (pn_ft F1).trans hp
      refine ok_aload_n dX3_takePerson_104 rfl rfl ?_
      refine ok_bipush (v := 99) dX3_takePerson_105 (by decide) ?_
      refine ok_callV (M' := mX3_isNumber) (b' := (0, 0)) (As := [_]) (cx := 3) dX3_takePerson_107 iX3_isNumber w_645 (by decide) rfl (by first | exact is_lit hv (by decide) rfl | exact is_sq hv hq | exact is_row hv hq | exact is_pn hv hq (by assumption) | assumption) rfl (Nat.le_of_ble_eq_true rfl) ⟨Nat.le_of_ble_eq_true rfl, Nat.le_of_ble_eq_true rfl⟩ (Nat.le_of_ble_eq_true rfl) rfl rfl ?_
      refine sp_X3_isNumber hv B hk Tk (M := 100) (by decide) rfl ?_
      refine ok_if_ne (tgt := 115) dX3_takePerson_110 (by decide) (fun _ => ?_) (fun c9 => absurd c9 (by rw [if_pos c2]; decide))
      refine ok_aload_n dX3_takePerson_115 rfl rfl ?_
      refine ok_aload_n dX3_takePerson_116 rfl rfl ?_
      refine ok_callV (M' := mX3_takeNumber) (b' := (0, 0)) (As := []) (cx := 3) dX3_takePerson_117 iX3_takeNumber w_649 (by decide) rfl (by first | exact is_lit hv (by decide) rfl | exact is_sq hv hq | exact is_row hv hq | exact is_pn hv hq (by assumption) | assumption) rfl (Nat.le_of_ble_eq_true rfl) ⟨Nat.le_of_ble_eq_true rfl, Nat.le_of_ble_eq_true rfl⟩ (Nat.le_of_ble_eq_true rfl) rfl rfl ?_
      refine sp_X3_takeNumber hv B hk Tk (of_decide_eq_true c2).1 (fun h1 F1 Tk => ?_)
      have hk := (tB_le (T := T) hk).2
      have Q := Q.ft F1
      have Rp := Rp.ft hv s14 F1
      have hv := F1.inv hv
      have B := F1.bt B
      have hp := (pn_ft F1).trans hp
      refine ok_putI dX3_takePerson_120 f_X3_108 (by rw [← hp]; exact is_pn hv s14 hn) rfl rfl rfl rfl ?_
      have FU : Fr 14 h1 (uI h1 p 3 (nI (tN T z (tB T z k)))) := Fr.rf.u (by have := pn_in hv s14 (j := n) hn; omega) (by have := pn_in hv s14 (j := n) hn; omega)
      have eR : i_opt T z 8 100 0 k = (true, tB T z (tB T z k), tN T z (tB T z k)) := (if_pos c).trans (if_pos c2)
      have R9 : Rep (uI h1 p 3 (nI (tN T z (tB T z k)))) 14 (n + 1) (w_join r n (up1 v 3 (nI (tN T z (tB T z k))))) := by
        rw [← join_up (by decide), ← hp]
        exact rep_uP hv s14 (by omega) (by decide) Rp
      rw [eR] at K1
      exact K1 _ (Q.fr FU) hv (B.fr FU) hk (Tk.fr FU) rfl R9 hp
    · refine ok_aload_n dX3_takePerson_91 rfl rfl ?_
      refine ok_ldcS (q := 3008) dX3_takePerson_92 (fun U hU => (X U hU).2.2.2.1 8 (by decide)) ?_
      refine ok_callV (M' := mX3_isWord) (b' := (0, 0)) (As := [_]) (cx := 3) dX3_takePerson_94 iX3_isWord w_587 (by decide) rfl (by first | exact is_lit hv (by decide) rfl | exact is_sq hv hq | exact is_row hv hq | exact is_pn hv hq (by assumption) | assumption) rfl (Nat.le_of_ble_eq_true rfl) ⟨Nat.le_of_ble_eq_true rfl, Nat.le_of_ble_eq_true rfl⟩ (Nat.le_of_ble_eq_true rfl) rfl rfl ?_
      refine sp_X3_isWord X (i := 8) (by decide) hv B hk Tk ?_
      refine ok_if_eq (tgt := 123) dX3_takePerson_97 (by decide) (fun c9 => absurd c9 (by rw [if_pos c]; decide)) (fun _ => ?_)
      refine ok_aload_n dX3_takePerson_100 rfl rfl ?_
      refine ok_callV (M' := mX3_look) (b' := (0, 0)) (As := []) (cx := 3) dX3_takePerson_101 iX3_look w_556 (by decide) rfl (by first | exact is_lit hv (by decide) rfl | exact is_sq hv hq | exact is_row hv hq | exact is_pn hv hq (by assumption) | assumption) rfl (Nat.le_of_ble_eq_true rfl) ⟨Nat.le_of_ble_eq_true rfl, Nat.le_of_ble_eq_true rfl⟩ (Nat.le_of_ble_eq_true rfl) rfl rfl ?_
      refine sp_X3_look hv B (tB_le hk).2 Tk.2.2.1 (fun h1 F1 Tk => ?_)
      have hk := (tB_le (T := T) hk).2
      have Q := Q.ft F1
      have Rp := Rp.ft hv s14 F1
      have hv := F1.inv hv
      have B := F1.bt B
      have hp := (pn_ft F1).trans hp
      refine ok_aload_n dX3_takePerson_104 rfl rfl ?_
      refine ok_bipush (v := 99) dX3_takePerson_105 (by decide) ?_
      refine ok_callV (M' := mX3_isNumber) (b' := (0, 0)) (As := [_]) (cx := 3) dX3_takePerson_107 iX3_isNumber w_645 (by decide) rfl (by first | exact is_lit hv (by decide) rfl | exact is_sq hv hq | exact is_row hv hq | exact is_pn hv hq (by assumption) | assumption) rfl (Nat.le_of_ble_eq_true rfl) ⟨Nat.le_of_ble_eq_true rfl, Nat.le_of_ble_eq_true rfl⟩ (Nat.le_of_ble_eq_true rfl) rfl rfl ?_
      refine sp_X3_isNumber hv B hk Tk (M := 100) (by decide) rfl ?_
      refine ok_if_ne (tgt := 115) dX3_takePerson_110 (by decide) (fun c9 => absurd c9 (by rw [if_neg c2]; exact fun c => c rfl)) (fun _ => ?_)
      refine ok_iconst (v := 0) dX3_takePerson_113 (by decide) ?_
      refine ok_ireturn dX3_takePerson_114 rfl rfl ?_
      have eR : i_opt T z 8 100 0 k = (false, tB T z k, 0) := (if_pos c).trans (if_neg c2)
      rw [eR] at K0
      exact K0 _ Q hv Tk rfl
  · refine ok_aload_n dX3_takePerson_91 rfl rfl ?_
    refine ok_ldcS (q := 3008) dX3_takePerson_92 (fun U hU => (X U hU).2.2.2.1 8 (by decide)) ?_
    refine ok_callV (M' := mX3_isWord) (b' := (0, 0)) (As := [_]) (cx := 3) dX3_takePerson_94 iX3_isWord w_587 (by decide) rfl (by first | exact is_lit hv (by decide) rfl | exact is_sq hv hq | exact is_row hv hq | exact is_pn hv hq (by assumption) | assumption) rfl (Nat.le_of_ble_eq_true rfl) ⟨Nat.le_of_ble_eq_true rfl, Nat.le_of_ble_eq_true rfl⟩ (Nat.le_of_ble_eq_true rfl) rfl rfl ?_
    refine sp_X3_isWord X (i := 8) (by decide) hv B hk Tk ?_
    refine ok_if_eq (tgt := 123) dX3_takePerson_97 (by decide) (fun _ => ?_) (fun c9 => absurd (if_neg c) c9)
    have eR : i_opt T z 8 100 0 k = (true, k, 0) := if_neg c
    rw [eR, up1_id vd] at K1
    exact K1 _ Q hv B hk Tk rfl Rp hp
theorem sp_X3_takePerson {g : GG} {h0 h : Hp} {Post : Option Value → Hp → Prop} (X : Gx g) (hv : Inv h) {T : Nat → Nat} {z : Nat} (B : BT h T z) {k : Nat} (hk : k ≤ z) (Tk : Tok h T z k) {n : Nat} {r : Nat → Int32} (Rp : Rep h 14 n r) (Q : FQ h0 h) (y : Int32) (K : ∀ h', FQ h0 h' → Inv h' → Tok h' T z (i_pers T z k n r y).2.1 → ((i_pers T z k n r y).1 = true → Rep h' 14 (i_pers T z k n r y).2.2.1 (i_pers T z k n r y).2.2.2) → Post (some (.int (if (i_pers T z k n r y).1 = true then 1 else 0))) h') : Sp g mX3_takePerson [.ref 38, .ref 14, .int y] h Post := by
  show Go g mX3_takePerson 0 [_, _, _, _] [] _ _ _
  have hn := Rp.1
  by_cases c : n < 10
  · refine ok_aload_n dX3_takePerson_0 rfl rfl ?_
    refine ok_getI dX3_takePerson_1 f_X3_78 (is_sq hv s14) rfl ?_
    refine ok_bipush (v := 10) dX3_takePerson_4 (by decide) ?_
    rw [Rp.2.2.1]
    refine ok_icmp_lt (tgt := 11) dX3_takePerson_6 (by decide) (fun _ => ?_) (fun c9 => absurd (nI_lt c (by decide)) c9)
    refine ok_aload_n dX3_takePerson_11 rfl rfl ?_
    refine ok_getR dX3_takePerson_12 f_X3_81 (is_sq hv s14) rfl (rf_row hv s14) ?_
    refine ok_aload_n dX3_takePerson_15 rfl rfl ?_
    refine ok_iload_n dX3_takePerson_16 rfl rfl ?_
    refine ok_callV (M' := mX2_join) (b' := (0, 0)) (As := [_]) (cx := 2) dX3_takePerson_17 iX2_join w_643 (by decide) rfl (by first | exact is_lit hv (by decide) rfl | exact is_sq hv hq | exact is_row hv hq | exact is_pn hv hq (by assumption) | assumption) rfl (Nat.le_of_ble_eq_true rfl) ⟨Nat.le_of_ble_eq_true rfl, Nat.le_of_ble_eq_true rfl⟩ (Nat.le_of_ble_eq_true rfl) rfl rfl ?_
    refine sp_X2_join hv s14 c Rp.2.2.1 _ ?_
    have hin := pn_in hv s14 (j := n) c
    have FJ : Fr 14 h (uI (setP h (pn h 14 n) (arrV0 y)) 14 6 (nI (n + 1))) := (((FrI.rf (q := 14) (h := h)).setP (by omega) (by omega)).u (by decide) (by decide)).fr
    have Rj : Rep (uI (setP h (pn h 14 n) (arrV0 y)) 14 6 (nI (n + 1))) 14 (n + 1) (w_join r n (arrV0 y)) := rep_join hv s14 c Rp
    have Q := Q.fr FJ
    have Tk := Tk.fr FJ
    have B := B.fr FJ
    have Rp := Rj
    have hvj : Inv (uI (setP h (pn h 14 n) (arrV0 y)) 14 6 (nI (n + 1))) := hv
    have hv := hvj
    have hpj : pn (uI (setP h (pn h 14 n) (arrV0 y)) 14 6 (nI (n + 1))) 14 n = pn h 14 n := rfl
    refine ok_aaloadP dX3_takePerson_20 (is_row hv s14) (vp_in_nI c (by decide)) (rf_nI hv s14 c) ?_
    refine ok_astore_n (lo' := [_, _, _, _]) dX3_takePerson_21 rfl (Nat.le_of_ble_eq_true rfl) rfl rfl ?_
    refine ok_aload_n dX3_takePerson_22 rfl rfl ?_
    refine ok_callV (M' := mX3_look) (b' := (0, 0)) (As := []) (cx := 3) dX3_takePerson_23 iX3_look w_556 (by decide) rfl (by first | exact is_lit hv (by decide) rfl | exact is_sq hv hq | exact is_row hv hq | exact is_pn hv hq (by assumption) | assumption) rfl (Nat.le_of_ble_eq_true rfl) ⟨Nat.le_of_ble_eq_true rfl, Nat.le_of_ble_eq_true rfl⟩ (Nat.le_of_ble_eq_true rfl) rfl rfl ?_
    refine sp_X3_look hv B (tB_le hk).2 Tk.2.2.1 (fun h1 F1 Tk => ?_)
    have hk := (tB_le (T := T) hk).2
    have Q := Q.ft F1
    have Rp := Rp.ft hv s14 F1
    have hv := F1.inv hv
    have B := F1.bt B
    have R1 := i_opt T z 6 1000 5 (tB T z k)
    refine lp_X3_takePerson_26 X hv B hk Tk c Rp Q (y := y) (p := pn h 14 n) ((pn_ft F1).trans hpj) rfl (fun h2 Q2 v2 B2 l2 T2 o2 Rp2 p2 => ?_) (fun h2 Q2 v2 T2 o2 => ?_)
    · refine lp_X3_takePerson_59 X v2 B2 l2 T2 c Rp2 Q2 (y := y) p2 rfl (fun h3 Q3 v3 B3 l3 T3 o3 Rp3 p3 => ?_) (fun h3 Q3 v3 T3 o3 => ?_)
      · refine lp_X3_takePerson_91 X v3 B3 l3 T3 c Rp3 Q3 (y := y) p3 rfl (fun h4 Q4 v4 B4 l4 T4 o4 Rp4 p4 => ?_) (fun h4 Q4 v4 T4 o4 => ?_)
        · have eR : i_pers T z k n r y = _ := (if_pos c).trans ((if_pos o2).trans ((if_pos o3).trans (if_pos o4)))
          rw [eR] at K
          refine ok_iconst (v := 1) dX3_takePerson_123 (by decide) ?_
          refine ok_ireturn dX3_takePerson_124 rfl rfl ?_
          exact K h4 Q4 v4 T4 (fun _ => Rp4)
        · have eR : i_pers T z k n r y = _ := (if_pos c).trans ((if_pos o2).trans ((if_pos o3).trans (if_neg (by rw [o4]; exact Bool.false_ne_true))))
          rw [eR] at K
          exact K h4 Q4 v4 T4 (fun c => absurd c Bool.false_ne_true)
      · have eR : i_pers T z k n r y = _ := (if_pos c).trans ((if_pos o2).trans (if_neg (by rw [o3]; exact Bool.false_ne_true)))
        rw [eR] at K
        exact K h3 Q3 v3 T3 (fun c => absurd c Bool.false_ne_true)
    · have eR : i_pers T z k n r y = _ := (if_pos c).trans (if_neg (by rw [o2]; exact Bool.false_ne_true))
      rw [eR] at K
      exact K h2 Q2 v2 T2 (fun c => absurd c Bool.false_ne_true)
  · rw [show i_pers T z k n r y = _ from if_neg c] at K
    refine ok_aload_n dX3_takePerson_0 rfl rfl ?_
    refine ok_getI dX3_takePerson_1 f_X3_78 (is_sq hv s14) rfl ?_
    refine ok_bipush (v := 10) dX3_takePerson_4 (by decide) ?_
    rw [Rp.2.2.1]
    refine ok_icmp_lt (tgt := 11) dX3_takePerson_6 (by decide) (fun c9 => absurd c9 (nI_nlt (a := n) (b := 10) (by omega) (by omega))) (fun _ => ?_)
    refine ok_iconst (v := 0) dX3_takePerson_9 (by decide) ?_
    refine ok_ireturn dX3_takePerson_10 rfl rfl ?_
    exact K _ Q hv Tk (fun c => absurd c Bool.false_ne_true)
