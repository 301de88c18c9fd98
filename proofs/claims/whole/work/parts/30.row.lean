/-! ===== the class: the row ===== -/
theorem st_bad {n : Nat} {p : Int32} (hb : p < 0 ∨ nI n ≤ p) : (if p < 0 then (0 : Int32) else if nI n ≤ p then 0 else 1) = 0 := by
  rcases hb with h | h
  · rw [if_pos h]
  · rw [if_pos h]; split <;> rfl
theorem st_ok {n j : Nat} (hn : n ≤ 10) (hj : j < n) : (if nI j < 0 then (0 : Int32) else if nI n ≤ nI j then 0 else 1) = 1 := by
  rw [if_neg (nI_pos (by omega)), if_neg (nI_ge hj (by omega))]
theorem wi_bad {v l u : Int32} (hb : v < l ∨ u < v) : (if v < l then (0 : Int32) else if u < v then 0 else 1) = 0 := by
  rcases hb with h | h
  · rw [if_pos h]
  · rw [if_pos h]; split <;> rfl
theorem wi_ok {v l u : Int32} (h1 : ¬ v < l) (h2 : ¬ u < v) : (if v < l then (0 : Int32) else if u < v then 0 else 1) = 1 := by rw [if_neg h1, if_neg h2]
theorem kd_bad {k : Int32} (hb : k < 0 ∨ 6 ≤ k) : (if k < 0 then (0 : Int32) else if 6 ≤ k then 0 else 1) = 0 := by
  rcases hb with h | h
  · rw [if_pos h]
  · rw [if_pos h]; split <;> rfl
theorem kd_ok {k : Int32} (hk : Kd k) : (if k < 0 then (0 : Int32) else if 6 ≤ k then 0 else 1) = 1 := by
  rcases hk with rfl | rfl | rfl | rfl | rfl | rfl <;> rfl
theorem kd_or (k : Int32) : (k < 0 ∨ 6 ≤ k) ∨ Kd k := by
  rcases sw_of k 6 (by decide) with ⟨j, hj, e⟩ | e
  · right
    rw [e]
    rcases (show j = 0 ∨ j = 1 ∨ j = 2 ∨ j = 3 ∨ j = 4 ∨ j = 5 by omega) with rfl | rfl | rfl | rfl | rfl | rfl
    · exact Or.inl rfl
    · exact Or.inr (Or.inl rfl)
    · exact Or.inr (Or.inr (Or.inl rfl))
    · exact Or.inr (Or.inr (Or.inr (Or.inl rfl)))
    · exact Or.inr (Or.inr (Or.inr (Or.inr (Or.inl rfl))))
    · exact Or.inr (Or.inr (Or.inr (Or.inr (Or.inr rfl))))
  · left
    rw [i_lt, i_le]
    exact e
/-- a place stands for one, or for none -/
theorem ix_or (p : Int32) {n : Nat} (hn : n ≤ 10) : (p < 0 ∨ nI n ≤ p) ∨ ∃ j, j < n ∧ p = nI j := by
  rcases pk_ix p (n := n) (by omega) with h | h | h
  · exact Or.inl (Or.inl h)
  · exact Or.inl (Or.inr h)
  · exact Or.inr h
theorem sp_X4_person_b {g : GG} {h : Hp} {Post : Option Value → Hp → Prop} {n : Nat} {r : Nat → Int32} (S : Hs h n r) (k : Int32) (hb : k < 0 ∨ 6 ≤ k) (K : Post (some (.int (-1000000001))) (hfi h 0)) : Sp g mX4_person [.ref 0, .int k] h Post := by
  show Go g mX4_person 0 [_, _] [] _ _ _
  have hv := S.1
  have hn := S.2.2.1
  have h6 := S.2.1.2.2.1
  have hq := s2
  refine ok_iload_n dX4_person_0 rfl rfl ?_
  refine ok_callS (M' := mX4_isKind) (b' := (0, 0)) (As := [_]) dX4_person_1 iX4_isKind w_250 rfl (Nat.le_of_ble_eq_true rfl) ⟨Nat.le_of_ble_eq_true rfl, Nat.le_of_ble_eq_true rfl⟩ (Nat.le_of_ble_eq_true rfl) rfl rfl ?_
  refine sp_X4_isKind _ ?_
  rw [kd_bad hb]
  refine ok_if_ne (tgt := 14) dX4_person_4 (by decide) (fun c9 => absurd c9 (fun c => c rfl)) (fun _ => ?_)
  refine ok_aload_n dX4_person_7 rfl rfl ?_
  refine ok_ldc dX4_person_8 w_253 ?_
  refine ok_callV (M' := mX4_finding) (b' := (0, 0)) (As := [_]) (cx := 4) dX4_person_10 iX4_finding w_254 (by decide) rfl (by first | exact is_lit hv (by decide) rfl | exact is_sq hv hq | exact is_row hv hq | exact is_pn hv hq (by assumption) | assumption) rfl (Nat.le_of_ble_eq_true rfl) ⟨Nat.le_of_ble_eq_true rfl, Nat.le_of_ble_eq_true rfl⟩ (Nat.le_of_ble_eq_true rfl) rfl rfl ?_
  refine sp_X4_finding hv (k := 0) (by decide) (by decide) ?_
  refine ok_ireturn dX4_person_13 rfl rfl ?_
  first | exact K | (simp only [↓reduceIte] at K; exact K)
theorem sp_X4_person_f {g : GG} {h : Hp} {Post : Option Value → Hp → Prop} {n : Nat} {r : Nat → Int32} (S : Hs h n r) {k : Int32} (hk : Kd k) (h10 : n = 10) (K : Post (some (.int (-1000000002))) (hfi h 1)) : Sp g mX4_person [.ref 0, .int k] h Post := by
  show Go g mX4_person 0 [_, _] [] _ _ _
  have hv := S.1
  have hn := S.2.2.1
  have h6 := S.2.1.2.2.1
  have hq := s2
  refine ok_iload_n dX4_person_0 rfl rfl ?_
  refine ok_callS (M' := mX4_isKind) (b' := (0, 0)) (As := [_]) dX4_person_1 iX4_isKind w_250 rfl (Nat.le_of_ble_eq_true rfl) ⟨Nat.le_of_ble_eq_true rfl, Nat.le_of_ble_eq_true rfl⟩ (Nat.le_of_ble_eq_true rfl) rfl rfl ?_
  refine sp_X4_isKind _ ?_
  rw [kd_ok hk]
  refine ok_if_ne (tgt := 14) dX4_person_4 (by decide) (fun _ => ?_) (fun c9 => absurd c9 (by decide))
  refine ok_aload_n dX4_person_14 rfl rfl ?_
  refine ok_getR dX4_person_15 f_X4_16 (by first | exact is_lit hv (by decide) rfl | exact is_sq hv hq | exact is_row hv hq | exact is_pn hv hq (by assumption) | assumption) rfl (by first | exact rf hv rfl | exact rf_row hv hq | assumption) ?_
  refine ok_getI dX4_person_18 f_X4_53 (by first | exact is_lit hv (by decide) rfl | exact is_sq hv hq | exact is_row hv hq | exact is_pn hv hq (by assumption) | assumption) rfl ?_
  refine ok_bipush (v := 10) dX4_person_21 (by decide) ?_
  rw [h6]
  refine ok_icmp_lt (tgt := 33) dX4_person_23 (by decide) (fun c9 => absurd c9 (by rw [h10]; decide)) (fun _ => ?_)
  refine ok_aload_n dX4_person_26 rfl rfl ?_
  refine ok_ldc dX4_person_27 w_258 ?_
  refine ok_callV (M' := mX4_finding) (b' := (0, 0)) (As := [_]) (cx := 4) dX4_person_29 iX4_finding w_254 (by decide) rfl (by first | exact is_lit hv (by decide) rfl | exact is_sq hv hq | exact is_row hv hq | exact is_pn hv hq (by assumption) | assumption) rfl (Nat.le_of_ble_eq_true rfl) ⟨Nat.le_of_ble_eq_true rfl, Nat.le_of_ble_eq_true rfl⟩ (Nat.le_of_ble_eq_true rfl) rfl rfl ?_
  refine sp_X4_finding hv (k := 1) (by decide) (by decide) ?_
  refine ok_ireturn dX4_person_32 rfl rfl ?_
  first | exact K | (simp only [↓reduceIte] at K; exact K)
theorem sp_X4_person {g : GG} {h : Hp} {Post : Option Value → Hp → Prop} {n : Nat} {r : Nat → Int32} (S : Hs h n r) {k : Int32} (hk : Kd k) (h10 : n < 10) (K : Post (some (.int (nI n))) (uI (setP h (pn h 2 n) (arrV0 k)) 2 6 (nI (n + 1)))) : Sp g mX4_person [.ref 0, .int k] h Post := by
  show Go g mX4_person 0 [_, _] [] _ _ _
  have hv := S.1
  have hn := S.2.2.1
  have h6 := S.2.1.2.2.1
  have hq := s2
  refine ok_iload_n dX4_person_0 rfl rfl ?_
  refine ok_callS (M' := mX4_isKind) (b' := (0, 0)) (As := [_]) dX4_person_1 iX4_isKind w_250 rfl (Nat.le_of_ble_eq_true rfl) ⟨Nat.le_of_ble_eq_true rfl, Nat.le_of_ble_eq_true rfl⟩ (Nat.le_of_ble_eq_true rfl) rfl rfl ?_
  refine sp_X4_isKind _ ?_
  rw [kd_ok hk]
  refine ok_if_ne (tgt := 14) dX4_person_4 (by decide) (fun _ => ?_) (fun c9 => absurd c9 (by decide))
  refine ok_aload_n dX4_person_14 rfl rfl ?_
  refine ok_getR dX4_person_15 f_X4_16 (by first | exact is_lit hv (by decide) rfl | exact is_sq hv hq | exact is_row hv hq | exact is_pn hv hq (by assumption) | assumption) rfl (by first | exact rf hv rfl | exact rf_row hv hq | assumption) ?_
  refine ok_getI dX4_person_18 f_X4_53 (by first | exact is_lit hv (by decide) rfl | exact is_sq hv hq | exact is_row hv hq | exact is_pn hv hq (by assumption) | assumption) rfl ?_
  refine ok_bipush (v := 10) dX4_person_21 (by decide) ?_
  rw [h6]
  refine ok_icmp_lt (tgt := 33) dX4_person_23 (by decide) (fun _ => ?_) (fun c9 => absurd (nI_lt h10 (by decide)) c9)
  refine ok_aload_n dX4_person_33 rfl rfl ?_
  refine ok_getR dX4_person_34 f_X4_16 (by first | exact is_lit hv (by decide) rfl | exact is_sq hv hq | exact is_row hv hq | exact is_pn hv hq (by assumption) | assumption) rfl (by first | exact rf hv rfl | exact rf_row hv hq | assumption) ?_
  refine ok_iload_n dX4_person_37 rfl rfl ?_
  refine ok_callV (M' := mX2_join) (b' := (0, 0)) (As := [_]) (cx := 2) dX4_person_38 iX2_join w_259 (by decide) rfl (by first | exact is_lit hv (by decide) rfl | exact is_sq hv hq | exact is_row hv hq | exact is_pn hv hq (by assumption) | assumption) rfl (Nat.le_of_ble_eq_true rfl) ⟨Nat.le_of_ble_eq_true rfl, Nat.le_of_ble_eq_true rfl⟩ (Nat.le_of_ble_eq_true rfl) rfl rfl ?_
  refine sp_X2_join hv s2 h10 h6 _ ?_
  refine ok_ireturn dX4_person_41 rfl rfl ?_
  first | exact K | (simp only [↓reduceIte] at K; exact K)
theorem sp_X4_of_b {g : GG} {h : Hp} {Post : Option Value → Hp → Prop} {n : Nat} {r : Nat → Int32} (S : Hs h n r) (p : Int32) (w : Int32) (hb : p < 0 ∨ nI n ≤ p) (K : Post (some (.int (-1000000001))) (hfi h 0)) : Sp g mX4_of [.ref 0, .int p, .int w] h Post := by
  show Go g mX4_of 0 [_, _, _, _] [] _ _ _
  have hv := S.1
  have hn := S.2.2.1
  have h6 := S.2.1.2.2.1
  have hq := s2
  refine ok_aload_n dX4_of_0 rfl rfl ?_
  refine ok_getR dX4_of_1 f_X4_16 (by first | exact is_lit hv (by decide) rfl | exact is_sq hv hq | exact is_row hv hq | exact is_pn hv hq (by assumption) | assumption) rfl (by first | exact rf hv rfl | exact rf_row hv hq | assumption) ?_
  refine ok_iload_n dX4_of_4 rfl rfl ?_
  refine ok_callV (M' := mX2_stands) (b' := (0, 0)) (As := [_]) (cx := 2) dX4_of_5 iX2_stands w_271 (by decide) rfl (by first | exact is_lit hv (by decide) rfl | exact is_sq hv hq | exact is_row hv hq | exact is_pn hv hq (by assumption) | assumption) rfl (Nat.le_of_ble_eq_true rfl) ⟨Nat.le_of_ble_eq_true rfl, Nat.le_of_ble_eq_true rfl⟩ (Nat.le_of_ble_eq_true rfl) rfl rfl ?_
  refine sp_X2_stands hv s2 _ ?_
  rw [h6, st_bad hb]
  refine ok_if_ne (tgt := 18) dX4_of_8 (by decide) (fun c9 => absurd c9 (fun c => c rfl)) (fun _ => ?_)
  refine ok_aload_n dX4_of_11 rfl rfl ?_
  refine ok_ldc dX4_of_12 w_253 ?_
  refine ok_callV (M' := mX4_finding) (b' := (0, 0)) (As := [_]) (cx := 4) dX4_of_14 iX4_finding w_254 (by decide) rfl (by first | exact is_lit hv (by decide) rfl | exact is_sq hv hq | exact is_row hv hq | exact is_pn hv hq (by assumption) | assumption) rfl (Nat.le_of_ble_eq_true rfl) ⟨Nat.le_of_ble_eq_true rfl, Nat.le_of_ble_eq_true rfl⟩ (Nat.le_of_ble_eq_true rfl) rfl rfl ?_
  refine sp_X4_finding hv (k := 0) (by decide) (by decide) ?_
  refine ok_ireturn dX4_of_17 rfl rfl ?_
  first | exact K | (simp only [↓reduceIte] at K; exact K)
def w_of (r : Nat → Int32) (j w : Nat) : Int32 := if w < 7 then ro r j w else if w = 7 then w_thinks r j (r 1) else if w = 8 then w_short r j (nI j) (r 1) else w_would r j (r 1)
theorem sp_X4_of {g : GG} {h : Hp} {Post : Option Value → Hp → Prop} {n : Nat} {r : Nat → Int32} (S : Hs h n r) {j : Nat} (hj : j < n) {w : Nat} (hw : w < 10) (K : Post (some (.int (w_of r j w))) h) : Sp g mX4_of [.ref 0, .int (nI j), .int (nI w)] h Post := by
  show Go g mX4_of 0 [_, _, _, _] [] _ _ _
  have hv := S.1
  have hn := S.2.2.1
  have h6 := S.2.1.2.2.1
  have hq := s2
  have hj10 : j < 10 := by omega
  have ep : ∀ f, f < 7 → hI h (pn h 2 j) f = ro r j f := fun f hf => S.2.1.2.2.2.2 j f hj hf
  refine ok_aload_n dX4_of_0 rfl rfl ?_
  refine ok_getR dX4_of_1 f_X4_16 (by first | exact is_lit hv (by decide) rfl | exact is_sq hv hq | exact is_row hv hq | exact is_pn hv hq (by assumption) | assumption) rfl (by first | exact rf hv rfl | exact rf_row hv hq | assumption) ?_
  refine ok_iload_n dX4_of_4 rfl rfl ?_
  refine ok_callV (M' := mX2_stands) (b' := (0, 0)) (As := [_]) (cx := 2) dX4_of_5 iX2_stands w_271 (by decide) rfl (by first | exact is_lit hv (by decide) rfl | exact is_sq hv hq | exact is_row hv hq | exact is_pn hv hq (by assumption) | assumption) rfl (Nat.le_of_ble_eq_true rfl) ⟨Nat.le_of_ble_eq_true rfl, Nat.le_of_ble_eq_true rfl⟩ (Nat.le_of_ble_eq_true rfl) rfl rfl ?_
  refine sp_X2_stands hv s2 _ ?_
  rw [h6, st_ok hn hj]
  refine ok_if_ne (tgt := 18) dX4_of_8 (by decide) (fun _ => ?_) (fun c9 => absurd c9 (by decide))
  refine ok_aload_n dX4_of_18 rfl rfl ?_
  refine ok_getR dX4_of_19 f_X4_16 (by first | exact is_lit hv (by decide) rfl | exact is_sq hv hq | exact is_row hv hq | exact is_pn hv hq (by assumption) | assumption) rfl (by first | exact rf hv rfl | exact rf_row hv hq | assumption) ?_
  refine ok_getR dX4_of_22 f_X4_64 (is_sq hv hq) rfl (rf_row hv hq) ?_
  refine ok_iload_n dX4_of_25 rfl rfl ?_
  refine ok_aaloadP dX4_of_26 (by first | exact is_lit hv (by decide) rfl | exact is_sq hv hq | exact is_row hv hq | exact is_pn hv hq (by assumption) | assumption) (by first | (unfold vp_in; decide) | exact vp_in_nI (by assumption) (by decide) | exact vp_in_nI (by omega) (by decide) | assumption) (by first | exact rf_nI hv hq (by assumption) | assumption) ?_
  refine ok_astore_n (lo' := [_, _, _, _]) dX4_of_27 rfl (Nat.le_of_ble_eq_true rfl) rfl rfl ?_
  refine ok_iload_n dX4_of_28 rfl rfl ?_
  rcases (show w = 0 ∨ w = 1 ∨ w = 2 ∨ w = 3 ∨ w = 4 ∨ w = 5 ∨ w = 6 ∨ w = 7 ∨ w = 8 ∨ w = 9 by omega) with ew | ew | ew | ew | ew | ew | ew | ew | ew | ew
  · subst ew
    refine ok_tableIn (tgt := 84) (off := 55) dX4_of_29 (by decide) (by decide) (by decide) (by decide) ?_
    refine ok_aload_n dX4_of_84 rfl rfl ?_
    refine ok_getI dX4_of_85 f_X4_68 (by first | exact is_lit hv (by decide) rfl | exact is_sq hv hq | exact is_row hv hq | exact is_pn hv hq (by assumption) | assumption) rfl ?_
    refine ok_ireturn dX4_of_88 rfl rfl ?_
    first | exact K | (rw [ep _ (by decide)]; exact K)
  · subst ew
    refine ok_tableIn (tgt := 89) (off := 60) dX4_of_29 (by decide) (by decide) (by decide) (by decide) ?_
    refine ok_aload_n dX4_of_89 rfl rfl ?_
    refine ok_getI dX4_of_90 f_X4_73 (by first | exact is_lit hv (by decide) rfl | exact is_sq hv hq | exact is_row hv hq | exact is_pn hv hq (by assumption) | assumption) rfl ?_
    refine ok_ireturn dX4_of_93 rfl rfl ?_
    first | exact K | (rw [ep _ (by decide)]; exact K)
  · subst ew
    refine ok_tableIn (tgt := 94) (off := 65) dX4_of_29 (by decide) (by decide) (by decide) (by decide) ?_
    refine ok_aload_n dX4_of_94 rfl rfl ?_
    refine ok_getI dX4_of_95 f_X4_76 (by first | exact is_lit hv (by decide) rfl | exact is_sq hv hq | exact is_row hv hq | exact is_pn hv hq (by assumption) | assumption) rfl ?_
    refine ok_ireturn dX4_of_98 rfl rfl ?_
    first | exact K | (rw [ep _ (by decide)]; exact K)
  · subst ew
    refine ok_tableIn (tgt := 99) (off := 70) dX4_of_29 (by decide) (by decide) (by decide) (by decide) ?_
    refine ok_aload_n dX4_of_99 rfl rfl ?_
    refine ok_getI dX4_of_100 f_X4_79 (by first | exact is_lit hv (by decide) rfl | exact is_sq hv hq | exact is_row hv hq | exact is_pn hv hq (by assumption) | assumption) rfl ?_
    refine ok_ireturn dX4_of_103 rfl rfl ?_
    first | exact K | (rw [ep _ (by decide)]; exact K)
  · subst ew
    refine ok_tableIn (tgt := 104) (off := 75) dX4_of_29 (by decide) (by decide) (by decide) (by decide) ?_
    refine ok_aload_n dX4_of_104 rfl rfl ?_
    refine ok_getI dX4_of_105 f_X4_82 (by first | exact is_lit hv (by decide) rfl | exact is_sq hv hq | exact is_row hv hq | exact is_pn hv hq (by assumption) | assumption) rfl ?_
    refine ok_ireturn dX4_of_108 rfl rfl ?_
    first | exact K | (rw [ep _ (by decide)]; exact K)
  · subst ew
    refine ok_tableIn (tgt := 109) (off := 80) dX4_of_29 (by decide) (by decide) (by decide) (by decide) ?_
    refine ok_aload_n dX4_of_109 rfl rfl ?_
    refine ok_getI dX4_of_110 f_X4_85 (by first | exact is_lit hv (by decide) rfl | exact is_sq hv hq | exact is_row hv hq | exact is_pn hv hq (by assumption) | assumption) rfl ?_
    refine ok_ireturn dX4_of_113 rfl rfl ?_
    first | exact K | (rw [ep _ (by decide)]; exact K)
  · subst ew
    refine ok_tableIn (tgt := 114) (off := 85) dX4_of_29 (by decide) (by decide) (by decide) (by decide) ?_
    refine ok_aload_n dX4_of_114 rfl rfl ?_
    refine ok_getI dX4_of_115 f_X4_88 (by first | exact is_lit hv (by decide) rfl | exact is_sq hv hq | exact is_row hv hq | exact is_pn hv hq (by assumption) | assumption) rfl ?_
    refine ok_ireturn dX4_of_118 rfl rfl ?_
    first | exact K | (rw [ep _ (by decide)]; exact K)
  · subst ew
    refine ok_tableIn (tgt := 119) (off := 90) dX4_of_29 (by decide) (by decide) (by decide) (by decide) ?_
    refine ok_aload_n dX4_of_119 rfl rfl ?_
    refine ok_getR dX4_of_120 f_X4_16 (by first | exact is_lit hv (by decide) rfl | exact is_sq hv hq | exact is_row hv hq | exact is_pn hv hq (by assumption) | assumption) rfl (by first | exact rf hv rfl | exact rf_row hv hq | assumption) ?_
    refine ok_iload_n dX4_of_123 rfl rfl ?_
    refine ok_callV (M' := mX2_thinks) (b' := (0, 0)) (As := [_]) (cx := 2) dX4_of_124 iX2_thinks w_275 (by decide) rfl (by first | exact is_lit hv (by decide) rfl | exact is_sq hv hq | exact is_row hv hq | exact is_pn hv hq (by assumption) | assumption) rfl (Nat.le_of_ble_eq_true rfl) ⟨Nat.le_of_ble_eq_true rfl, Nat.le_of_ble_eq_true rfl⟩ (Nat.le_of_ble_eq_true rfl) rfl rfl ?_
    refine sp_X2_thinks hv s2 hj10 ?_
    refine ok_ireturn dX4_of_127 rfl rfl ?_
    obtain ⟨e0, e2, e3, e6, e5⟩ := S.2.1.wr hj
    rw [e0, e2, e3, e5 3 (by decide)]
    exact K
  · subst ew
    refine ok_tableIn (tgt := 128) (off := 99) dX4_of_29 (by decide) (by decide) (by decide) (by decide) ?_
    refine ok_aload_n dX4_of_128 rfl rfl ?_
    refine ok_getR dX4_of_129 f_X4_16 (by first | exact is_lit hv (by decide) rfl | exact is_sq hv hq | exact is_row hv hq | exact is_pn hv hq (by assumption) | assumption) rfl (by first | exact rf hv rfl | exact rf_row hv hq | assumption) ?_
    refine ok_iload_n dX4_of_132 rfl rfl ?_
    refine ok_iload_n dX4_of_133 rfl rfl ?_
    refine ok_callV (M' := mX2_shortAt) (b' := (0, 0)) (As := [_, _]) (cx := 2) dX4_of_134 iX2_shortAt w_279 (by decide) rfl (by first | exact is_lit hv (by decide) rfl | exact is_sq hv hq | exact is_row hv hq | exact is_pn hv hq (by assumption) | assumption) rfl (Nat.le_of_ble_eq_true rfl) ⟨Nat.le_of_ble_eq_true rfl, Nat.le_of_ble_eq_true rfl⟩ (Nat.le_of_ble_eq_true rfl) rfl rfl ?_
    refine sp_X2_shortAt hv s2 hj10 (S.2.1.wr hj) _ ?_
    refine ok_ireturn dX4_of_137 rfl rfl ?_
    first | exact K | (rw [ep _ (by decide)]; exact K)
  · subst ew
    refine ok_tableIn (tgt := 138) (off := 109) dX4_of_29 (by decide) (by decide) (by decide) (by decide) ?_
    refine ok_aload_n dX4_of_138 rfl rfl ?_
    refine ok_getR dX4_of_139 f_X4_16 (by first | exact is_lit hv (by decide) rfl | exact is_sq hv hq | exact is_row hv hq | exact is_pn hv hq (by assumption) | assumption) rfl (by first | exact rf hv rfl | exact rf_row hv hq | assumption) ?_
    refine ok_iload_n dX4_of_142 rfl rfl ?_
    refine ok_callV (M' := mX2_wouldThrow) (b' := (0, 0)) (As := [_]) (cx := 2) dX4_of_143 iX2_wouldThrow w_287 (by decide) rfl (by first | exact is_lit hv (by decide) rfl | exact is_sq hv hq | exact is_row hv hq | exact is_pn hv hq (by assumption) | assumption) rfl (Nat.le_of_ble_eq_true rfl) ⟨Nat.le_of_ble_eq_true rfl, Nat.le_of_ble_eq_true rfl⟩ (Nat.le_of_ble_eq_true rfl) rfl rfl ?_
    refine sp_X2_wouldThrow hv s2 hj10 (S.2.1.wr hj) (S.2.2.kd j hj) ?_
    refine ok_ireturn dX4_of_146 rfl rfl ?_
    first | exact K | (rw [ep _ (by decide)]; exact K)
theorem sp_X4_of_w {g : GG} {h : Hp} {Post : Option Value → Hp → Prop} {n : Nat} {r : Nat → Int32} (S : Hs h n r) {j : Nat} (hj : j < n) {w : Int32} (hw : w.toInt < 0 ∨ 9 < w.toInt) (K : Post (some (.int (-1000000001))) (hfi h 0)) : Sp g mX4_of [.ref 0, .int (nI j), .int w] h Post := by
  show Go g mX4_of 0 [_, _, _, _] [] _ _ _
  have hv := S.1
  have hn := S.2.2.1
  have h6 := S.2.1.2.2.1
  have hq := s2
  have hj10 : j < 10 := by omega
  have ep : ∀ f, f < 7 → hI h (pn h 2 j) f = ro r j f := fun f hf => S.2.1.2.2.2.2 j f hj hf
  refine ok_aload_n dX4_of_0 rfl rfl ?_
  refine ok_getR dX4_of_1 f_X4_16 (by first | exact is_lit hv (by decide) rfl | exact is_sq hv hq | exact is_row hv hq | exact is_pn hv hq (by assumption) | assumption) rfl (by first | exact rf hv rfl | exact rf_row hv hq | assumption) ?_
  refine ok_iload_n dX4_of_4 rfl rfl ?_
  refine ok_callV (M' := mX2_stands) (b' := (0, 0)) (As := [_]) (cx := 2) dX4_of_5 iX2_stands w_271 (by decide) rfl (by first | exact is_lit hv (by decide) rfl | exact is_sq hv hq | exact is_row hv hq | exact is_pn hv hq (by assumption) | assumption) rfl (Nat.le_of_ble_eq_true rfl) ⟨Nat.le_of_ble_eq_true rfl, Nat.le_of_ble_eq_true rfl⟩ (Nat.le_of_ble_eq_true rfl) rfl rfl ?_
  refine sp_X2_stands hv s2 _ ?_
  rw [h6, st_ok hn hj]
  refine ok_if_ne (tgt := 18) dX4_of_8 (by decide) (fun _ => ?_) (fun c9 => absurd c9 (by decide))
  refine ok_aload_n dX4_of_18 rfl rfl ?_
  refine ok_getR dX4_of_19 f_X4_16 (by first | exact is_lit hv (by decide) rfl | exact is_sq hv hq | exact is_row hv hq | exact is_pn hv hq (by assumption) | assumption) rfl (by first | exact rf hv rfl | exact rf_row hv hq | assumption) ?_
  refine ok_getR dX4_of_22 f_X4_64 (is_sq hv hq) rfl (rf_row hv hq) ?_
  refine ok_iload_n dX4_of_25 rfl rfl ?_
  refine ok_aaloadP dX4_of_26 (by first | exact is_lit hv (by decide) rfl | exact is_sq hv hq | exact is_row hv hq | exact is_pn hv hq (by assumption) | assumption) (by first | (unfold vp_in; decide) | exact vp_in_nI (by assumption) (by decide) | exact vp_in_nI (by omega) (by decide) | assumption) (by first | exact rf_nI hv hq (by assumption) | assumption) ?_
  refine ok_astore_n (lo' := [_, _, _, _]) dX4_of_27 rfl (Nat.le_of_ble_eq_true rfl) rfl rfl ?_
  refine ok_iload_n dX4_of_28 rfl rfl ?_
  skip
  · refine ok_tableOut (tgt := 147) dX4_of_29 hw (by decide) ?_
    refine ok_aload_n dX4_of_147 rfl rfl ?_
    refine ok_ldc dX4_of_148 w_253 ?_
    refine ok_callV (M' := mX4_finding) (b' := (0, 0)) (As := [_]) (cx := 4) dX4_of_150 iX4_finding w_254 (by decide) rfl (by first | exact is_lit hv (by decide) rfl | exact is_sq hv hq | exact is_row hv hq | exact is_pn hv hq (by assumption) | assumption) rfl (Nat.le_of_ble_eq_true rfl) ⟨Nat.le_of_ble_eq_true rfl, Nat.le_of_ble_eq_true rfl⟩ (Nat.le_of_ble_eq_true rfl) rfl rfl ?_
    refine sp_X4_finding hv (k := 0) (by decide) (by decide) ?_
    refine ok_ireturn dX4_of_153 rfl rfl ?_
    first | exact K | (simp only [↓reduceIte] at K; exact K)
theorem sp_X4_set_b {g : GG} {h : Hp} {Post : Option Value → Hp → Prop} {n : Nat} {r : Nat → Int32} (S : Hs h n r) (p : Int32) (w v : Int32) (hb : p < 0 ∨ nI n ≤ p) (K : Post (some (.int (-1000000001))) (hfi h 0)) : Sp g mX4_set [.ref 0, .int p, .int w, .int v] h Post := by
  show Go g mX4_set 0 [_, _, _, _, _, _] [] _ _ _
  have hv := S.1
  have hn := S.2.2.1
  have h6 := S.2.1.2.2.1
  have hq := s2
  refine ok_aload_n dX4_set_0 rfl rfl ?_
  refine ok_getR dX4_set_1 f_X4_16 (by first | exact is_lit hv (by decide) rfl | exact is_sq hv hq | exact is_row hv hq | exact is_pn hv hq (by assumption) | assumption) rfl (by first | exact rf hv rfl | exact rf_row hv hq | assumption) ?_
  refine ok_iload_n dX4_set_4 rfl rfl ?_
  refine ok_callV (M' := mX2_stands) (b' := (0, 0)) (As := [_]) (cx := 2) dX4_set_5 iX2_stands w_271 (by decide) rfl (by first | exact is_lit hv (by decide) rfl | exact is_sq hv hq | exact is_row hv hq | exact is_pn hv hq (by assumption) | assumption) rfl (Nat.le_of_ble_eq_true rfl) ⟨Nat.le_of_ble_eq_true rfl, Nat.le_of_ble_eq_true rfl⟩ (Nat.le_of_ble_eq_true rfl) rfl rfl ?_
  refine sp_X2_stands hv s2 _ ?_
  rw [h6, st_bad hb]
  refine ok_if_eq (tgt := 19) dX4_set_8 (by decide) (fun _ => ?_) (fun c9 => absurd rfl c9)
  refine ok_aload_n dX4_set_19 rfl rfl ?_
  refine ok_ldc dX4_set_20 w_253 ?_
  refine ok_callV (M' := mX4_finding) (b' := (0, 0)) (As := [_]) (cx := 4) dX4_set_22 iX4_finding w_254 (by decide) rfl (by first | exact is_lit hv (by decide) rfl | exact is_sq hv hq | exact is_row hv hq | exact is_pn hv hq (by assumption) | assumption) rfl (Nat.le_of_ble_eq_true rfl) ⟨Nat.le_of_ble_eq_true rfl, Nat.le_of_ble_eq_true rfl⟩ (Nat.le_of_ble_eq_true rfl) rfl rfl ?_
  refine sp_X4_finding hv (k := 0) (by decide) (by decide) ?_
  refine ok_ireturn dX4_set_25 rfl rfl ?_
  first | exact K | (simp only [↓reduceIte] at K; exact K)
theorem sp_X4_set_w {g : GG} {h : Hp} {Post : Option Value → Hp → Prop} {n : Nat} {r : Nat → Int32} (S : Hs h n r) {j : Nat} (hj : j < n) {w v : Int32} (hm : w_may w v = 0) (K : Post (some (.int (-1000000001))) (hfi h 0)) : Sp g mX4_set [.ref 0, .int (nI j), .int w, .int v] h Post := by
  show Go g mX4_set 0 [_, _, _, _, _, _] [] _ _ _
  have hv := S.1
  have hn := S.2.2.1
  have h6 := S.2.1.2.2.1
  have hq := s2
  have hj10 : j < 10 := by omega
  have ep : ∀ f, f < 7 → hI h (pn h 2 j) f = ro r j f := fun f hf => S.2.1.2.2.2.2 j f hj hf
  refine ok_aload_n dX4_set_0 rfl rfl ?_
  refine ok_getR dX4_set_1 f_X4_16 (by first | exact is_lit hv (by decide) rfl | exact is_sq hv hq | exact is_row hv hq | exact is_pn hv hq (by assumption) | assumption) rfl (by first | exact rf hv rfl | exact rf_row hv hq | assumption) ?_
  refine ok_iload_n dX4_set_4 rfl rfl ?_
  refine ok_callV (M' := mX2_stands) (b' := (0, 0)) (As := [_]) (cx := 2) dX4_set_5 iX2_stands w_271 (by decide) rfl (by first | exact is_lit hv (by decide) rfl | exact is_sq hv hq | exact is_row hv hq | exact is_pn hv hq (by assumption) | assumption) rfl (Nat.le_of_ble_eq_true rfl) ⟨Nat.le_of_ble_eq_true rfl, Nat.le_of_ble_eq_true rfl⟩ (Nat.le_of_ble_eq_true rfl) rfl rfl ?_
  refine sp_X2_stands hv s2 _ ?_
  rw [h6, st_ok hn hj]
  refine ok_if_eq (tgt := 19) dX4_set_8 (by decide) (fun c9 => absurd c9 (by decide)) (fun _ => ?_)
  refine ok_iload_n dX4_set_11 rfl rfl ?_
  refine ok_iload_n dX4_set_12 rfl rfl ?_
  refine ok_callS (M' := mX4_isSettable) (b' := (0, 0)) (As := [_, _]) dX4_set_13 iX4_isSettable w_299 rfl (Nat.le_of_ble_eq_true rfl) ⟨Nat.le_of_ble_eq_true rfl, Nat.le_of_ble_eq_true rfl⟩ (Nat.le_of_ble_eq_true rfl) rfl rfl ?_
  refine sp_X4_isSettable _ _ ?_
  rw [hm]
  refine ok_if_ne (tgt := 26) dX4_set_16 (by decide) (fun c9 => absurd c9 (fun c => c rfl)) (fun _ => ?_)
  refine ok_aload_n dX4_set_19 rfl rfl ?_
  refine ok_ldc dX4_set_20 w_253 ?_
  refine ok_callV (M' := mX4_finding) (b' := (0, 0)) (As := [_]) (cx := 4) dX4_set_22 iX4_finding w_254 (by decide) rfl (by first | exact is_lit hv (by decide) rfl | exact is_sq hv hq | exact is_row hv hq | exact is_pn hv hq (by assumption) | assumption) rfl (Nat.le_of_ble_eq_true rfl) ⟨Nat.le_of_ble_eq_true rfl, Nat.le_of_ble_eq_true rfl⟩ (Nat.le_of_ble_eq_true rfl) rfl rfl ?_
  refine sp_X4_finding hv (k := 0) (by decide) (by decide) ?_
  refine ok_ireturn dX4_set_25 rfl rfl ?_
  first | exact K | (simp only [↓reduceIte] at K; exact K)
theorem sp_X4_set {g : GG} {h : Hp} {Post : Option Value → Hp → Prop} {n : Nat} {r : Nat → Int32} (S : Hs h n r) {j : Nat} (hj : j < n) {w : Nat} {v : Int32} (hw : w = 1 ∨ w = 2 ∨ w = 3) (hm : w_may (nI w) v = 1) (K : Post (some (.int (ro r j w))) (uI h (pn h 2 j) w v)) : Sp g mX4_set [.ref 0, .int (nI j), .int (nI w), .int v] h Post := by
  show Go g mX4_set 0 [_, _, _, _, _, _] [] _ _ _
  have hv := S.1
  have hn := S.2.2.1
  have h6 := S.2.1.2.2.1
  have hq := s2
  have hj10 : j < 10 := by omega
  have ep : ∀ f, f < 7 → hI h (pn h 2 j) f = ro r j f := fun f hf => S.2.1.2.2.2.2 j f hj hf
  refine ok_aload_n dX4_set_0 rfl rfl ?_
  refine ok_getR dX4_set_1 f_X4_16 (by first | exact is_lit hv (by decide) rfl | exact is_sq hv hq | exact is_row hv hq | exact is_pn hv hq (by assumption) | assumption) rfl (by first | exact rf hv rfl | exact rf_row hv hq | assumption) ?_
  refine ok_iload_n dX4_set_4 rfl rfl ?_
  refine ok_callV (M' := mX2_stands) (b' := (0, 0)) (As := [_]) (cx := 2) dX4_set_5 iX2_stands w_271 (by decide) rfl (by first | exact is_lit hv (by decide) rfl | exact is_sq hv hq | exact is_row hv hq | exact is_pn hv hq (by assumption) | assumption) rfl (Nat.le_of_ble_eq_true rfl) ⟨Nat.le_of_ble_eq_true rfl, Nat.le_of_ble_eq_true rfl⟩ (Nat.le_of_ble_eq_true rfl) rfl rfl ?_
  refine sp_X2_stands hv s2 _ ?_
  rw [h6, st_ok hn hj]
  refine ok_if_eq (tgt := 19) dX4_set_8 (by decide) (fun c9 => absurd c9 (by decide)) (fun _ => ?_)
  refine ok_iload_n dX4_set_11 rfl rfl ?_
  refine ok_iload_n dX4_set_12 rfl rfl ?_
  refine ok_callS (M' := mX4_isSettable) (b' := (0, 0)) (As := [_, _]) dX4_set_13 iX4_isSettable w_299 rfl (Nat.le_of_ble_eq_true rfl) ⟨Nat.le_of_ble_eq_true rfl, Nat.le_of_ble_eq_true rfl⟩ (Nat.le_of_ble_eq_true rfl) rfl rfl ?_
  refine sp_X4_isSettable _ _ ?_
  rw [hm]
  refine ok_if_ne (tgt := 26) dX4_set_16 (by decide) (fun _ => ?_) (fun c9 => absurd c9 (by decide))
  refine ok_aload_n dX4_set_26 rfl rfl ?_
  refine ok_getR dX4_set_27 f_X4_16 (by first | exact is_lit hv (by decide) rfl | exact is_sq hv hq | exact is_row hv hq | exact is_pn hv hq (by assumption) | assumption) rfl (by first | exact rf hv rfl | exact rf_row hv hq | assumption) ?_
  refine ok_getR dX4_set_30 f_X4_64 (is_sq hv hq) rfl (rf_row hv hq) ?_
  refine ok_iload_n dX4_set_33 rfl rfl ?_
  refine ok_aaloadP dX4_set_34 (by first | exact is_lit hv (by decide) rfl | exact is_sq hv hq | exact is_row hv hq | exact is_pn hv hq (by assumption) | assumption) (by first | (unfold vp_in; decide) | exact vp_in_nI (by assumption) (by decide) | exact vp_in_nI (by omega) (by decide) | assumption) (by first | exact rf_nI hv hq (by assumption) | assumption) ?_
  refine ok_astore (lo' := [_, _, _, _, _, _]) dX4_set_35 (Nat.le_of_ble_eq_true rfl) rfl rfl ?_
  refine ok_iload_n dX4_set_37 rfl rfl ?_
  rcases hw with ew | ew | ew
  · subst ew
    refine ok_lookup (tgt := 64) (off := 26) dX4_set_38 (by decide) (by decide) (by decide) ?_
    refine ok_aload dX4_set_64 rfl ?_
    refine ok_getI dX4_set_66 f_X4_73 (by first | exact is_lit hv (by decide) rfl | exact is_sq hv hq | exact is_row hv hq | exact is_pn hv hq (by assumption) | assumption) rfl ?_
    rw [ep 1 (by decide)]
    refine ok_istore (lo' := [_, _, _, _, _, _]) dX4_set_69 (Nat.le_of_ble_eq_true rfl) rfl rfl ?_
    refine ok_aload dX4_set_71 rfl ?_
    refine ok_iload_n dX4_set_73 rfl rfl ?_
    refine ok_putI dX4_set_74 f_X4_73 (by first | exact is_lit hv (by decide) rfl | exact is_sq hv hq | exact is_row hv hq | exact is_pn hv hq (by assumption) | assumption) rfl rfl rfl rfl ?_
    refine ok_iload dX4_set_77 rfl ?_
    refine ok_ireturn dX4_set_79 rfl rfl ?_
    first | exact K | (simp only [↓reduceIte] at K; exact K)
  · subst ew
    refine ok_lookup (tgt := 80) (off := 42) dX4_set_38 (by decide) (by decide) (by decide) ?_
    refine ok_aload dX4_set_80 rfl ?_
    refine ok_getI dX4_set_82 f_X4_76 (by first | exact is_lit hv (by decide) rfl | exact is_sq hv hq | exact is_row hv hq | exact is_pn hv hq (by assumption) | assumption) rfl ?_
    rw [ep 2 (by decide)]
    refine ok_istore (lo' := [_, _, _, _, _, _]) dX4_set_85 (Nat.le_of_ble_eq_true rfl) rfl rfl ?_
    refine ok_aload dX4_set_87 rfl ?_
    refine ok_iload_n dX4_set_89 rfl rfl ?_
    refine ok_putI dX4_set_90 f_X4_76 (by first | exact is_lit hv (by decide) rfl | exact is_sq hv hq | exact is_row hv hq | exact is_pn hv hq (by assumption) | assumption) rfl rfl rfl rfl ?_
    refine ok_iload dX4_set_93 rfl ?_
    refine ok_ireturn dX4_set_95 rfl rfl ?_
    first | exact K | (simp only [↓reduceIte] at K; exact K)
  · subst ew
    refine ok_lookup (tgt := 96) (off := 58) dX4_set_38 (by decide) (by decide) (by decide) ?_
    refine ok_aload dX4_set_96 rfl ?_
    refine ok_getI dX4_set_98 f_X4_79 (by first | exact is_lit hv (by decide) rfl | exact is_sq hv hq | exact is_row hv hq | exact is_pn hv hq (by assumption) | assumption) rfl ?_
    rw [ep 3 (by decide)]
    refine ok_istore (lo' := [_, _, _, _, _, _]) dX4_set_101 (Nat.le_of_ble_eq_true rfl) rfl rfl ?_
    refine ok_aload dX4_set_103 rfl ?_
    refine ok_iload_n dX4_set_105 rfl rfl ?_
    refine ok_putI dX4_set_106 f_X4_79 (by first | exact is_lit hv (by decide) rfl | exact is_sq hv hq | exact is_row hv hq | exact is_pn hv hq (by assumption) | assumption) rfl rfl rfl rfl ?_
    refine ok_iload dX4_set_109 rfl ?_
    refine ok_ireturn dX4_set_111 rfl rfl ?_
    first | exact K | (simp only [↓reduceIte] at K; exact K)
theorem sp_X4_turn_b {g : GG} {h : Hp} {Post : Option Value → Hp → Prop} {n : Nat} {r : Nat → Int32} (S : Hs h n r) (p : Int32) (k : Int32) (hb : p < 0 ∨ nI n ≤ p) (K : Post (some (.int (-1000000001))) (hfi h 0)) : Sp g mX4_turn [.ref 0, .int p, .int k] h Post := by
  show Go g mX4_turn 0 [_, _, _, _] [] _ _ _
  have hv := S.1
  have hn := S.2.2.1
  have h6 := S.2.1.2.2.1
  have hq := s2
  refine ok_aload_n dX4_turn_0 rfl rfl ?_
  refine ok_getR dX4_turn_1 f_X4_16 (by first | exact is_lit hv (by decide) rfl | exact is_sq hv hq | exact is_row hv hq | exact is_pn hv hq (by assumption) | assumption) rfl (by first | exact rf hv rfl | exact rf_row hv hq | assumption) ?_
  refine ok_iload_n dX4_turn_4 rfl rfl ?_
  refine ok_callV (M' := mX2_stands) (b' := (0, 0)) (As := [_]) (cx := 2) dX4_turn_5 iX2_stands w_271 (by decide) rfl (by first | exact is_lit hv (by decide) rfl | exact is_sq hv hq | exact is_row hv hq | exact is_pn hv hq (by assumption) | assumption) rfl (Nat.le_of_ble_eq_true rfl) ⟨Nat.le_of_ble_eq_true rfl, Nat.le_of_ble_eq_true rfl⟩ (Nat.le_of_ble_eq_true rfl) rfl rfl ?_
  refine sp_X2_stands hv s2 _ ?_
  rw [h6, st_bad hb]
  refine ok_if_eq (tgt := 18) dX4_turn_8 (by decide) (fun _ => ?_) (fun c9 => absurd rfl c9)
  refine ok_aload_n dX4_turn_18 rfl rfl ?_
  refine ok_ldc dX4_turn_19 w_253 ?_
  refine ok_callV (M' := mX4_finding) (b' := (0, 0)) (As := [_]) (cx := 4) dX4_turn_21 iX4_finding w_254 (by decide) rfl (by first | exact is_lit hv (by decide) rfl | exact is_sq hv hq | exact is_row hv hq | exact is_pn hv hq (by assumption) | assumption) rfl (Nat.le_of_ble_eq_true rfl) ⟨Nat.le_of_ble_eq_true rfl, Nat.le_of_ble_eq_true rfl⟩ (Nat.le_of_ble_eq_true rfl) rfl rfl ?_
  refine sp_X4_finding hv (k := 0) (by decide) (by decide) ?_
  refine ok_ireturn dX4_turn_24 rfl rfl ?_
  first | exact K | (simp only [↓reduceIte] at K; exact K)
theorem sp_X4_turn_w {g : GG} {h : Hp} {Post : Option Value → Hp → Prop} {n : Nat} {r : Nat → Int32} (S : Hs h n r) {j : Nat} (hj : j < n) {k : Int32} (hk : k < 0 ∨ 6 ≤ k) (K : Post (some (.int (-1000000001))) (hfi h 0)) : Sp g mX4_turn [.ref 0, .int (nI j), .int k] h Post := by
  show Go g mX4_turn 0 [_, _, _, _] [] _ _ _
  have hv := S.1
  have hn := S.2.2.1
  have h6 := S.2.1.2.2.1
  have hq := s2
  have hj10 : j < 10 := by omega
  have ep : ∀ f, f < 7 → hI h (pn h 2 j) f = ro r j f := fun f hf => S.2.1.2.2.2.2 j f hj hf
  refine ok_aload_n dX4_turn_0 rfl rfl ?_
  refine ok_getR dX4_turn_1 f_X4_16 (by first | exact is_lit hv (by decide) rfl | exact is_sq hv hq | exact is_row hv hq | exact is_pn hv hq (by assumption) | assumption) rfl (by first | exact rf hv rfl | exact rf_row hv hq | assumption) ?_
  refine ok_iload_n dX4_turn_4 rfl rfl ?_
  refine ok_callV (M' := mX2_stands) (b' := (0, 0)) (As := [_]) (cx := 2) dX4_turn_5 iX2_stands w_271 (by decide) rfl (by first | exact is_lit hv (by decide) rfl | exact is_sq hv hq | exact is_row hv hq | exact is_pn hv hq (by assumption) | assumption) rfl (Nat.le_of_ble_eq_true rfl) ⟨Nat.le_of_ble_eq_true rfl, Nat.le_of_ble_eq_true rfl⟩ (Nat.le_of_ble_eq_true rfl) rfl rfl ?_
  refine sp_X2_stands hv s2 _ ?_
  rw [h6, st_ok hn hj]
  refine ok_if_eq (tgt := 18) dX4_turn_8 (by decide) (fun c9 => absurd c9 (by decide)) (fun _ => ?_)
  refine ok_iload_n dX4_turn_11 rfl rfl ?_
  refine ok_callS (M' := mX4_isKind) (b' := (0, 0)) (As := [_]) dX4_turn_12 iX4_isKind w_250 rfl (Nat.le_of_ble_eq_true rfl) ⟨Nat.le_of_ble_eq_true rfl, Nat.le_of_ble_eq_true rfl⟩ (Nat.le_of_ble_eq_true rfl) rfl rfl ?_
  refine sp_X4_isKind _ ?_
  rw [kd_bad hk]
  refine ok_if_ne (tgt := 25) dX4_turn_15 (by decide) (fun c9 => absurd c9 (fun c => c rfl)) (fun _ => ?_)
  refine ok_aload_n dX4_turn_18 rfl rfl ?_
  refine ok_ldc dX4_turn_19 w_253 ?_
  refine ok_callV (M' := mX4_finding) (b' := (0, 0)) (As := [_]) (cx := 4) dX4_turn_21 iX4_finding w_254 (by decide) rfl (by first | exact is_lit hv (by decide) rfl | exact is_sq hv hq | exact is_row hv hq | exact is_pn hv hq (by assumption) | assumption) rfl (Nat.le_of_ble_eq_true rfl) ⟨Nat.le_of_ble_eq_true rfl, Nat.le_of_ble_eq_true rfl⟩ (Nat.le_of_ble_eq_true rfl) rfl rfl ?_
  refine sp_X4_finding hv (k := 0) (by decide) (by decide) ?_
  refine ok_ireturn dX4_turn_24 rfl rfl ?_
  first | exact K | (simp only [↓reduceIte] at K; exact K)
theorem sp_X4_turn {g : GG} {h : Hp} {Post : Option Value → Hp → Prop} {n : Nat} {r : Nat → Int32} (S : Hs h n r) {j : Nat} (hj : j < n) {k : Int32} (hk : Kd k) (K : Post (some (.int (ro r j 0))) (uI h (pn h 2 j) 0 k)) : Sp g mX4_turn [.ref 0, .int (nI j), .int k] h Post := by
  show Go g mX4_turn 0 [_, _, _, _] [] _ _ _
  have hv := S.1
  have hn := S.2.2.1
  have h6 := S.2.1.2.2.1
  have hq := s2
  have hj10 : j < 10 := by omega
  have ep : ∀ f, f < 7 → hI h (pn h 2 j) f = ro r j f := fun f hf => S.2.1.2.2.2.2 j f hj hf
  refine ok_aload_n dX4_turn_0 rfl rfl ?_
  refine ok_getR dX4_turn_1 f_X4_16 (by first | exact is_lit hv (by decide) rfl | exact is_sq hv hq | exact is_row hv hq | exact is_pn hv hq (by assumption) | assumption) rfl (by first | exact rf hv rfl | exact rf_row hv hq | assumption) ?_
  refine ok_iload_n dX4_turn_4 rfl rfl ?_
  refine ok_callV (M' := mX2_stands) (b' := (0, 0)) (As := [_]) (cx := 2) dX4_turn_5 iX2_stands w_271 (by decide) rfl (by first | exact is_lit hv (by decide) rfl | exact is_sq hv hq | exact is_row hv hq | exact is_pn hv hq (by assumption) | assumption) rfl (Nat.le_of_ble_eq_true rfl) ⟨Nat.le_of_ble_eq_true rfl, Nat.le_of_ble_eq_true rfl⟩ (Nat.le_of_ble_eq_true rfl) rfl rfl ?_
  refine sp_X2_stands hv s2 _ ?_
  rw [h6, st_ok hn hj]
  refine ok_if_eq (tgt := 18) dX4_turn_8 (by decide) (fun c9 => absurd c9 (by decide)) (fun _ => ?_)
  refine ok_iload_n dX4_turn_11 rfl rfl ?_
  refine ok_callS (M' := mX4_isKind) (b' := (0, 0)) (As := [_]) dX4_turn_12 iX4_isKind w_250 rfl (Nat.le_of_ble_eq_true rfl) ⟨Nat.le_of_ble_eq_true rfl, Nat.le_of_ble_eq_true rfl⟩ (Nat.le_of_ble_eq_true rfl) rfl rfl ?_
  refine sp_X4_isKind _ ?_
  rw [kd_ok hk]
  refine ok_if_ne (tgt := 25) dX4_turn_15 (by decide) (fun _ => ?_) (fun c9 => absurd c9 (by decide))
  refine ok_aload_n dX4_turn_25 rfl rfl ?_
  refine ok_getR dX4_turn_26 f_X4_16 (by first | exact is_lit hv (by decide) rfl | exact is_sq hv hq | exact is_row hv hq | exact is_pn hv hq (by assumption) | assumption) rfl (by first | exact rf hv rfl | exact rf_row hv hq | assumption) ?_
  refine ok_getR dX4_turn_29 f_X4_64 (is_sq hv hq) rfl (rf_row hv hq) ?_
  refine ok_iload_n dX4_turn_32 rfl rfl ?_
  refine ok_aaloadP dX4_turn_33 (by first | exact is_lit hv (by decide) rfl | exact is_sq hv hq | exact is_row hv hq | exact is_pn hv hq (by assumption) | assumption) (by first | (unfold vp_in; decide) | exact vp_in_nI (by assumption) (by decide) | exact vp_in_nI (by omega) (by decide) | assumption) (by first | exact rf_nI hv hq (by assumption) | assumption) ?_
  refine ok_getI dX4_turn_34 f_X4_68 (by first | exact is_lit hv (by decide) rfl | exact is_sq hv hq | exact is_row hv hq | exact is_pn hv hq (by assumption) | assumption) rfl ?_
  rw [ep 0 (by decide)]
  refine ok_istore_n (lo' := [_, _, _, _]) dX4_turn_37 rfl (Nat.le_of_ble_eq_true rfl) rfl rfl ?_
  refine ok_aload_n dX4_turn_38 rfl rfl ?_
  refine ok_getR dX4_turn_39 f_X4_16 (by first | exact is_lit hv (by decide) rfl | exact is_sq hv hq | exact is_row hv hq | exact is_pn hv hq (by assumption) | assumption) rfl (by first | exact rf hv rfl | exact rf_row hv hq | assumption) ?_
  refine ok_getR dX4_turn_42 f_X4_64 (is_sq hv hq) rfl (rf_row hv hq) ?_
  refine ok_iload_n dX4_turn_45 rfl rfl ?_
  refine ok_aaloadP dX4_turn_46 (by first | exact is_lit hv (by decide) rfl | exact is_sq hv hq | exact is_row hv hq | exact is_pn hv hq (by assumption) | assumption) (by first | (unfold vp_in; decide) | exact vp_in_nI (by assumption) (by decide) | exact vp_in_nI (by omega) (by decide) | assumption) (by first | exact rf_nI hv hq (by assumption) | assumption) ?_
  refine ok_iload_n dX4_turn_47 rfl rfl ?_
  refine ok_putI dX4_turn_48 f_X4_68 (by first | exact is_lit hv (by decide) rfl | exact is_sq hv hq | exact is_row hv hq | exact is_pn hv hq (by assumption) | assumption) rfl rfl rfl rfl ?_
  refine ok_iload_n dX4_turn_51 rfl rfl ?_
  refine ok_ireturn dX4_turn_52 rfl rfl ?_
  first | exact K | (simp only [↓reduceIte] at K; exact K)
def w_it : Nat → Int32 → Int32 → Int32
  | 0, _, _ => 0
  | m + 1, k, w => if k < 0 then 0 else if 6 ≤ k then 0 else if k = w then 1 else w_it m (abL.getD k.toNatClampNeg 0) w
theorem it_b (m : Nat) (k w : Int32) : B01 (w_it m k w) := by
  induction m generalizing k with
  | zero => exact Or.inl rfl
  | succ m ih =>
    rw [w_it]
    split
    · exact Or.inl rfl
    · split
      · exact Or.inl rfl
      · split
        · exact Or.inr rfl
        · exact ih _
theorem ab_next {k : Int32} (hk : Kd k) : vp_in k 6 ∧ (Kd (abL.getD k.toNatClampNeg 0) ∨ abL.getD k.toNatClampNeg 0 = -1) := by
  rcases hk with rfl | rfl | rfl | rfl | rfl | rfl
  · exact ⟨by unfold vp_in; decide, Or.inr rfl⟩
  · exact ⟨by unfold vp_in; decide, Or.inl (Or.inl rfl)⟩
  · exact ⟨by unfold vp_in; decide, Or.inl (Or.inl rfl)⟩
  · exact ⟨by unfold vp_in; decide, Or.inl (Or.inl rfl)⟩
  · exact ⟨by unfold vp_in; decide, Or.inl (Or.inr (Or.inl rfl))⟩
  · exact ⟨by unfold vp_in; decide, Or.inl (Or.inr (Or.inr (Or.inr (Or.inl rfl))))⟩
theorem lp_X4_isOf_4 {g : GG} {h : Hp} {Post : Option Value → Hp → Prop} (X : Gx g) (k0 w : Int32) : ∀ (m i : Nat) (k : Int32), i + m = 6 → (Kd k ∨ k = -1) → Post (some (.int (w_it m k w))) h → Go g mX4_isOf 4 [some (.int k0), some (.int w), some (.int k), some (.int (nI i))] [] h (0, 0) Post := by
  intro m
  induction m with
  | zero =>
    intro i k hik hk K
    obtain rfl : i = 6 := by omega
    refine ok_iload_n dX4_isOf_4 rfl rfl ?_
    refine ok_bipush (v := 6) dX4_isOf_5 (by decide) ?_
    refine ok_icmp_ge (tgt := 36) dX4_isOf_7 (by decide) (fun _ => ?_) (fun c9 => absurd (by decide) c9)
    refine ok_iconst (v := 0) dX4_isOf_36 (by decide) ?_
    refine ok_ireturn dX4_isOf_37 rfl rfl ?_
    first | exact K | (simp only [↓reduceIte] at K; exact K)
  | succ m ih =>
    intro i k hik hk K
    rw [w_it] at K
    rcases hk with hk | hk
    · refine ok_iload_n dX4_isOf_4 rfl rfl ?_
      refine ok_bipush (v := 6) dX4_isOf_5 (by decide) ?_
      refine ok_icmp_ge (tgt := 36) dX4_isOf_7 (by decide) (fun c9 => absurd c9 (nI_ge (show i < 6 by omega) (by decide))) (fun _ => ?_)
      refine ok_iload_n dX4_isOf_10 rfl rfl ?_
      refine ok_callS (M' := mX4_isKind) (b' := (0, 0)) (As := [_]) dX4_isOf_11 iX4_isKind w_250 rfl (Nat.le_of_ble_eq_true rfl) ⟨Nat.le_of_ble_eq_true rfl, Nat.le_of_ble_eq_true rfl⟩ (Nat.le_of_ble_eq_true rfl) rfl rfl ?_
      refine sp_X4_isKind _ ?_
      rw [kd_ok hk]
      have hk2 := kd_ok hk
      refine ok_if_eq (tgt := 36) dX4_isOf_14 (by decide) (fun c9 => absurd c9 (by decide)) (fun _ => ?_)
      refine ok_iload_n dX4_isOf_17 rfl rfl ?_
      refine ok_iload_n dX4_isOf_18 rfl rfl ?_
      refine ok_icmp_ne (tgt := 24) dX4_isOf_19 (by decide) (fun c_19 => ?_) (fun c_19 => ?_)
      · refine ok_gets (v := .ref 2000) dX4_isOf_24 w_316 (fun U hU => (X U hU).1) ?_
        refine ok_iload_n dX4_isOf_27 rfl rfl ?_
        refine ok_ti (x := abL.getD k.toNatClampNeg 0) dX4_isOf_28 (fun U hU => (X U hU).2.1) (ab_next hk).1 rfl ?_
        refine ok_istore_n (lo' := [_, _, _, _]) dX4_isOf_29 rfl (Nat.le_of_ble_eq_true rfl) rfl rfl ?_
        refine ok_iinc (v := _ + 1) (lo' := [_, _, _, _]) dX4_isOf_30 rfl rfl (Nat.le_of_ble_eq_true rfl) rfl rfl ?_
        refine ok_goto (tgt := 4) dX4_isOf_33 (by decide) ?_
        have hk3 : ¬ k < 0 ∧ ¬ (6 : Int32) ≤ k := by rcases hk with rfl | rfl | rfl | rfl | rfl | rfl <;> decide
        rw [if_neg hk3.1, if_neg hk3.2, if_neg c_19] at K
        rw [nI_1]
        exact ih (i + 1) _ (by omega) (ab_next hk).2 K
      · refine ok_iconst (v := 1) dX4_isOf_22 (by decide) ?_
        refine ok_ireturn dX4_isOf_23 rfl rfl ?_
        have hk3 : ¬ k < 0 ∧ ¬ (6 : Int32) ≤ k := by rcases hk with rfl | rfl | rfl | rfl | rfl | rfl <;> decide
        rw [if_neg hk3.1, if_neg hk3.2, if_pos c_19] at K
        exact K
    · subst hk
      refine ok_iload_n dX4_isOf_4 rfl rfl ?_
      refine ok_bipush (v := 6) dX4_isOf_5 (by decide) ?_
      refine ok_icmp_ge (tgt := 36) dX4_isOf_7 (by decide) (fun c9 => absurd c9 (nI_ge (show i < 6 by omega) (by decide))) (fun _ => ?_)
      refine ok_iload_n dX4_isOf_10 rfl rfl ?_
      refine ok_callS (M' := mX4_isKind) (b' := (0, 0)) (As := [_]) dX4_isOf_11 iX4_isKind w_250 rfl (Nat.le_of_ble_eq_true rfl) ⟨Nat.le_of_ble_eq_true rfl, Nat.le_of_ble_eq_true rfl⟩ (Nat.le_of_ble_eq_true rfl) rfl rfl ?_
      refine sp_X4_isKind _ ?_
      rw [kd_bad (Or.inl (by decide))]
      refine ok_if_eq (tgt := 36) dX4_isOf_14 (by decide) (fun _ => ?_) (fun c9 => absurd rfl c9)
      refine ok_iconst (v := 0) dX4_isOf_36 (by decide) ?_
      refine ok_ireturn dX4_isOf_37 rfl rfl ?_
      rw [if_pos (by decide)] at K
      exact K
theorem sp_X4_isOf {g : GG} {h : Hp} {Post : Option Value → Hp → Prop} (X : Gx g) {k : Int32} (hk : Kd k) (w : Int32) (K : Post (some (.int (w_it 6 k w))) h) : Sp g mX4_isOf [.int k, .int w] h Post := by
  show Go g mX4_isOf 0 [_, _, _, _] [] _ _ _
  refine ok_iload_n dX4_isOf_0 rfl rfl ?_
  refine ok_istore_n (lo' := [_, _, _, _]) dX4_isOf_1 rfl (Nat.le_of_ble_eq_true rfl) rfl rfl ?_
  refine ok_iconst (v := 0) dX4_isOf_2 (by decide) ?_
  refine ok_istore_n (lo' := [_, _, _, _]) dX4_isOf_3 rfl (Nat.le_of_ble_eq_true rfl) rfl rfl ?_
  exact lp_X4_isOf_4 X _ _ 6 0 k rfl (Or.inl hk) K
theorem sp_X4_as_b {g : GG} {h : Hp} {Post : Option Value → Hp → Prop} {n : Nat} {r : Nat → Int32} (S : Hs h n r) (p : Int32) (k : Int32) (hb : p < 0 ∨ nI n ≤ p) (K : Post (some (.int (-1000000001))) (hfi h 0)) : Sp g mX4_as [.ref 0, .int p, .int k] h Post := by
  show Go g mX4_as 0 [_, _, _] [] _ _ _
  have hv := S.1
  have hn := S.2.2.1
  have h6 := S.2.1.2.2.1
  have hq := s2
  refine ok_aload_n dX4_as_0 rfl rfl ?_
  refine ok_getR dX4_as_1 f_X4_16 (by first | exact is_lit hv (by decide) rfl | exact is_sq hv hq | exact is_row hv hq | exact is_pn hv hq (by assumption) | assumption) rfl (by first | exact rf hv rfl | exact rf_row hv hq | assumption) ?_
  refine ok_iload_n dX4_as_4 rfl rfl ?_
  refine ok_callV (M' := mX2_stands) (b' := (0, 0)) (As := [_]) (cx := 2) dX4_as_5 iX2_stands w_271 (by decide) rfl (by first | exact is_lit hv (by decide) rfl | exact is_sq hv hq | exact is_row hv hq | exact is_pn hv hq (by assumption) | assumption) rfl (Nat.le_of_ble_eq_true rfl) ⟨Nat.le_of_ble_eq_true rfl, Nat.le_of_ble_eq_true rfl⟩ (Nat.le_of_ble_eq_true rfl) rfl rfl ?_
  refine sp_X2_stands hv s2 _ ?_
  rw [h6, st_bad hb]
  refine ok_if_eq (tgt := 18) dX4_as_8 (by decide) (fun _ => ?_) (fun c9 => absurd rfl c9)
  refine ok_aload_n dX4_as_18 rfl rfl ?_
  refine ok_ldc dX4_as_19 w_253 ?_
  refine ok_callV (M' := mX4_finding) (b' := (0, 0)) (As := [_]) (cx := 4) dX4_as_21 iX4_finding w_254 (by decide) rfl (by first | exact is_lit hv (by decide) rfl | exact is_sq hv hq | exact is_row hv hq | exact is_pn hv hq (by assumption) | assumption) rfl (Nat.le_of_ble_eq_true rfl) ⟨Nat.le_of_ble_eq_true rfl, Nat.le_of_ble_eq_true rfl⟩ (Nat.le_of_ble_eq_true rfl) rfl rfl ?_
  refine sp_X4_finding hv (k := 0) (by decide) (by decide) ?_
  refine ok_ireturn dX4_as_24 rfl rfl ?_
  first | exact K | (simp only [↓reduceIte] at K; exact K)
theorem sp_X4_as_w {g : GG} {h : Hp} {Post : Option Value → Hp → Prop} {n : Nat} {r : Nat → Int32} (S : Hs h n r) {j : Nat} (hj : j < n) {k : Int32} (hk : k < 0 ∨ 6 ≤ k) (K : Post (some (.int (-1000000001))) (hfi h 0)) : Sp g mX4_as [.ref 0, .int (nI j), .int k] h Post := by
  show Go g mX4_as 0 [_, _, _] [] _ _ _
  have hv := S.1
  have hn := S.2.2.1
  have h6 := S.2.1.2.2.1
  have hq := s2
  have hj10 : j < 10 := by omega
  have ep : ∀ f, f < 7 → hI h (pn h 2 j) f = ro r j f := fun f hf => S.2.1.2.2.2.2 j f hj hf
  refine ok_aload_n dX4_as_0 rfl rfl ?_
  refine ok_getR dX4_as_1 f_X4_16 (by first | exact is_lit hv (by decide) rfl | exact is_sq hv hq | exact is_row hv hq | exact is_pn hv hq (by assumption) | assumption) rfl (by first | exact rf hv rfl | exact rf_row hv hq | assumption) ?_
  refine ok_iload_n dX4_as_4 rfl rfl ?_
  refine ok_callV (M' := mX2_stands) (b' := (0, 0)) (As := [_]) (cx := 2) dX4_as_5 iX2_stands w_271 (by decide) rfl (by first | exact is_lit hv (by decide) rfl | exact is_sq hv hq | exact is_row hv hq | exact is_pn hv hq (by assumption) | assumption) rfl (Nat.le_of_ble_eq_true rfl) ⟨Nat.le_of_ble_eq_true rfl, Nat.le_of_ble_eq_true rfl⟩ (Nat.le_of_ble_eq_true rfl) rfl rfl ?_
  refine sp_X2_stands hv s2 _ ?_
  rw [h6, st_ok hn hj]
  refine ok_if_eq (tgt := 18) dX4_as_8 (by decide) (fun c9 => absurd c9 (by decide)) (fun _ => ?_)
  refine ok_iload_n dX4_as_11 rfl rfl ?_
  refine ok_callS (M' := mX4_isKind) (b' := (0, 0)) (As := [_]) dX4_as_12 iX4_isKind w_250 rfl (Nat.le_of_ble_eq_true rfl) ⟨Nat.le_of_ble_eq_true rfl, Nat.le_of_ble_eq_true rfl⟩ (Nat.le_of_ble_eq_true rfl) rfl rfl ?_
  refine sp_X4_isKind _ ?_
  rw [kd_bad hk]
  refine ok_if_ne (tgt := 25) dX4_as_15 (by decide) (fun c9 => absurd c9 (fun c => c rfl)) (fun _ => ?_)
  refine ok_aload_n dX4_as_18 rfl rfl ?_
  refine ok_ldc dX4_as_19 w_253 ?_
  refine ok_callV (M' := mX4_finding) (b' := (0, 0)) (As := [_]) (cx := 4) dX4_as_21 iX4_finding w_254 (by decide) rfl (by first | exact is_lit hv (by decide) rfl | exact is_sq hv hq | exact is_row hv hq | exact is_pn hv hq (by assumption) | assumption) rfl (Nat.le_of_ble_eq_true rfl) ⟨Nat.le_of_ble_eq_true rfl, Nat.le_of_ble_eq_true rfl⟩ (Nat.le_of_ble_eq_true rfl) rfl rfl ?_
  refine sp_X4_finding hv (k := 0) (by decide) (by decide) ?_
  refine ok_ireturn dX4_as_24 rfl rfl ?_
  first | exact K | (simp only [↓reduceIte] at K; exact K)
theorem sp_X4_as_k {g : GG} {h : Hp} {Post : Option Value → Hp → Prop} {n : Nat} {r : Nat → Int32} (S : Hs h n r) {j : Nat} (hj : j < n) (X : Gx g) {k : Int32} (hk : Kd k) (hi : w_it 6 (ro r j 0) k = 0) (K : Post (some (.int (-1000000003))) (hfi h 2)) : Sp g mX4_as [.ref 0, .int (nI j), .int k] h Post := by
  show Go g mX4_as 0 [_, _, _] [] _ _ _
  have hv := S.1
  have hn := S.2.2.1
  have h6 := S.2.1.2.2.1
  have hq := s2
  have hj10 : j < 10 := by omega
  have ep : ∀ f, f < 7 → hI h (pn h 2 j) f = ro r j f := fun f hf => S.2.1.2.2.2.2 j f hj hf
  refine ok_aload_n dX4_as_0 rfl rfl ?_
  refine ok_getR dX4_as_1 f_X4_16 (by first | exact is_lit hv (by decide) rfl | exact is_sq hv hq | exact is_row hv hq | exact is_pn hv hq (by assumption) | assumption) rfl (by first | exact rf hv rfl | exact rf_row hv hq | assumption) ?_
  refine ok_iload_n dX4_as_4 rfl rfl ?_
  refine ok_callV (M' := mX2_stands) (b' := (0, 0)) (As := [_]) (cx := 2) dX4_as_5 iX2_stands w_271 (by decide) rfl (by first | exact is_lit hv (by decide) rfl | exact is_sq hv hq | exact is_row hv hq | exact is_pn hv hq (by assumption) | assumption) rfl (Nat.le_of_ble_eq_true rfl) ⟨Nat.le_of_ble_eq_true rfl, Nat.le_of_ble_eq_true rfl⟩ (Nat.le_of_ble_eq_true rfl) rfl rfl ?_
  refine sp_X2_stands hv s2 _ ?_
  rw [h6, st_ok hn hj]
  refine ok_if_eq (tgt := 18) dX4_as_8 (by decide) (fun c9 => absurd c9 (by decide)) (fun _ => ?_)
  refine ok_iload_n dX4_as_11 rfl rfl ?_
  refine ok_callS (M' := mX4_isKind) (b' := (0, 0)) (As := [_]) dX4_as_12 iX4_isKind w_250 rfl (Nat.le_of_ble_eq_true rfl) ⟨Nat.le_of_ble_eq_true rfl, Nat.le_of_ble_eq_true rfl⟩ (Nat.le_of_ble_eq_true rfl) rfl rfl ?_
  refine sp_X4_isKind _ ?_
  rw [kd_ok hk]
  refine ok_if_ne (tgt := 25) dX4_as_15 (by decide) (fun _ => ?_) (fun c9 => absurd c9 (by decide))
  refine ok_aload_n dX4_as_25 rfl rfl ?_
  refine ok_getR dX4_as_26 f_X4_16 (by first | exact is_lit hv (by decide) rfl | exact is_sq hv hq | exact is_row hv hq | exact is_pn hv hq (by assumption) | assumption) rfl (by first | exact rf hv rfl | exact rf_row hv hq | assumption) ?_
  refine ok_getR dX4_as_29 f_X4_64 (is_sq hv hq) rfl (rf_row hv hq) ?_
  refine ok_iload_n dX4_as_32 rfl rfl ?_
  refine ok_aaloadP dX4_as_33 (by first | exact is_lit hv (by decide) rfl | exact is_sq hv hq | exact is_row hv hq | exact is_pn hv hq (by assumption) | assumption) (by first | (unfold vp_in; decide) | exact vp_in_nI (by assumption) (by decide) | exact vp_in_nI (by omega) (by decide) | assumption) (by first | exact rf_nI hv hq (by assumption) | assumption) ?_
  refine ok_getI dX4_as_34 f_X4_68 (by first | exact is_lit hv (by decide) rfl | exact is_sq hv hq | exact is_row hv hq | exact is_pn hv hq (by assumption) | assumption) rfl ?_
  refine ok_iload_n dX4_as_37 rfl rfl ?_
  refine ok_callS (M' := mX4_isOf) (b' := (0, 0)) (As := [_, _]) dX4_as_38 iX4_isOf w_313 rfl (Nat.le_of_ble_eq_true rfl) ⟨Nat.le_of_ble_eq_true rfl, Nat.le_of_ble_eq_true rfl⟩ (Nat.le_of_ble_eq_true rfl) rfl rfl ?_
  rw [ep 0 (by decide)]
  refine sp_X4_isOf X (S.2.2.kd j hj) _ ?_
  rw [hi]
  refine ok_if_ne (tgt := 51) dX4_as_41 (by decide) (fun c9 => absurd c9 (fun c => c rfl)) (fun _ => ?_)
  refine ok_aload_n dX4_as_44 rfl rfl ?_
  refine ok_ldc dX4_as_45 w_318 ?_
  refine ok_callV (M' := mX4_finding) (b' := (0, 0)) (As := [_]) (cx := 4) dX4_as_47 iX4_finding w_254 (by decide) rfl (by first | exact is_lit hv (by decide) rfl | exact is_sq hv hq | exact is_row hv hq | exact is_pn hv hq (by assumption) | assumption) rfl (Nat.le_of_ble_eq_true rfl) ⟨Nat.le_of_ble_eq_true rfl, Nat.le_of_ble_eq_true rfl⟩ (Nat.le_of_ble_eq_true rfl) rfl rfl ?_
  refine sp_X4_finding hv (k := 2) (by decide) (by decide) ?_
  refine ok_ireturn dX4_as_50 rfl rfl ?_
  first | exact K | (simp only [↓reduceIte] at K; exact K)
theorem sp_X4_as {g : GG} {h : Hp} {Post : Option Value → Hp → Prop} {n : Nat} {r : Nat → Int32} (S : Hs h n r) {j : Nat} (hj : j < n) (X : Gx g) {k : Int32} (hk : Kd k) (hi : w_it 6 (ro r j 0) k = 1) (K : Post (some (.int (ro r j 2))) h) : Sp g mX4_as [.ref 0, .int (nI j), .int k] h Post := by
  show Go g mX4_as 0 [_, _, _] [] _ _ _
  have hv := S.1
  have hn := S.2.2.1
  have h6 := S.2.1.2.2.1
  have hq := s2
  have hj10 : j < 10 := by omega
  have ep : ∀ f, f < 7 → hI h (pn h 2 j) f = ro r j f := fun f hf => S.2.1.2.2.2.2 j f hj hf
  refine ok_aload_n dX4_as_0 rfl rfl ?_
  refine ok_getR dX4_as_1 f_X4_16 (by first | exact is_lit hv (by decide) rfl | exact is_sq hv hq | exact is_row hv hq | exact is_pn hv hq (by assumption) | assumption) rfl (by first | exact rf hv rfl | exact rf_row hv hq | assumption) ?_
  refine ok_iload_n dX4_as_4 rfl rfl ?_
  refine ok_callV (M' := mX2_stands) (b' := (0, 0)) (As := [_]) (cx := 2) dX4_as_5 iX2_stands w_271 (by decide) rfl (by first | exact is_lit hv (by decide) rfl | exact is_sq hv hq | exact is_row hv hq | exact is_pn hv hq (by assumption) | assumption) rfl (Nat.le_of_ble_eq_true rfl) ⟨Nat.le_of_ble_eq_true rfl, Nat.le_of_ble_eq_true rfl⟩ (Nat.le_of_ble_eq_true rfl) rfl rfl ?_
  refine sp_X2_stands hv s2 _ ?_
  rw [h6, st_ok hn hj]
  refine ok_if_eq (tgt := 18) dX4_as_8 (by decide) (fun c9 => absurd c9 (by decide)) (fun _ => ?_)
  refine ok_iload_n dX4_as_11 rfl rfl ?_
  refine ok_callS (M' := mX4_isKind) (b' := (0, 0)) (As := [_]) dX4_as_12 iX4_isKind w_250 rfl (Nat.le_of_ble_eq_true rfl) ⟨Nat.le_of_ble_eq_true rfl, Nat.le_of_ble_eq_true rfl⟩ (Nat.le_of_ble_eq_true rfl) rfl rfl ?_
  refine sp_X4_isKind _ ?_
  rw [kd_ok hk]
  refine ok_if_ne (tgt := 25) dX4_as_15 (by decide) (fun _ => ?_) (fun c9 => absurd c9 (by decide))
  refine ok_aload_n dX4_as_25 rfl rfl ?_
  refine ok_getR dX4_as_26 f_X4_16 (by first | exact is_lit hv (by decide) rfl | exact is_sq hv hq | exact is_row hv hq | exact is_pn hv hq (by assumption) | assumption) rfl (by first | exact rf hv rfl | exact rf_row hv hq | assumption) ?_
  refine ok_getR dX4_as_29 f_X4_64 (is_sq hv hq) rfl (rf_row hv hq) ?_
  refine ok_iload_n dX4_as_32 rfl rfl ?_
  refine ok_aaloadP dX4_as_33 (by first | exact is_lit hv (by decide) rfl | exact is_sq hv hq | exact is_row hv hq | exact is_pn hv hq (by assumption) | assumption) (by first | (unfold vp_in; decide) | exact vp_in_nI (by assumption) (by decide) | exact vp_in_nI (by omega) (by decide) | assumption) (by first | exact rf_nI hv hq (by assumption) | assumption) ?_
  refine ok_getI dX4_as_34 f_X4_68 (by first | exact is_lit hv (by decide) rfl | exact is_sq hv hq | exact is_row hv hq | exact is_pn hv hq (by assumption) | assumption) rfl ?_
  refine ok_iload_n dX4_as_37 rfl rfl ?_
  refine ok_callS (M' := mX4_isOf) (b' := (0, 0)) (As := [_, _]) dX4_as_38 iX4_isOf w_313 rfl (Nat.le_of_ble_eq_true rfl) ⟨Nat.le_of_ble_eq_true rfl, Nat.le_of_ble_eq_true rfl⟩ (Nat.le_of_ble_eq_true rfl) rfl rfl ?_
  rw [ep 0 (by decide)]
  refine sp_X4_isOf X (S.2.2.kd j hj) _ ?_
  rw [hi]
  refine ok_if_ne (tgt := 51) dX4_as_41 (by decide) (fun _ => ?_) (fun c9 => absurd c9 (by decide))
  refine ok_aload_n dX4_as_51 rfl rfl ?_
  refine ok_getR dX4_as_52 f_X4_16 (by first | exact is_lit hv (by decide) rfl | exact is_sq hv hq | exact is_row hv hq | exact is_pn hv hq (by assumption) | assumption) rfl (by first | exact rf hv rfl | exact rf_row hv hq | assumption) ?_
  refine ok_getR dX4_as_55 f_X4_64 (is_sq hv hq) rfl (rf_row hv hq) ?_
  refine ok_iload_n dX4_as_58 rfl rfl ?_
  refine ok_aaloadP dX4_as_59 (by first | exact is_lit hv (by decide) rfl | exact is_sq hv hq | exact is_row hv hq | exact is_pn hv hq (by assumption) | assumption) (by first | (unfold vp_in; decide) | exact vp_in_nI (by assumption) (by decide) | exact vp_in_nI (by omega) (by decide) | assumption) (by first | exact rf_nI hv hq (by assumption) | assumption) ?_
  refine ok_getI dX4_as_60 f_X4_76 (by first | exact is_lit hv (by decide) rfl | exact is_sq hv hq | exact is_row hv hq | exact is_pn hv hq (by assumption) | assumption) rfl ?_
  refine ok_ireturn dX4_as_63 rfl rfl ?_
  rw [ep 2 (by decide)]
  exact K
theorem sp_X4_move_b {g : GG} {h : Hp} {Post : Option Value → Hp → Prop} {n : Nat} {r : Nat → Int32} (S : Hs h n r) (p : Int32) (t : Int32) (hb : p < 0 ∨ nI n ≤ p) (K : Post (some (.int (-1000000001))) (hfi h 0)) : Sp g mX4_move [.ref 0, .int p, .int t] h Post := by
  show Go g mX4_move 0 [_, _, _] [] _ _ _
  have hv := S.1
  have hn := S.2.2.1
  have h6 := S.2.1.2.2.1
  have hq := s2
  refine ok_aload_n dX4_move_0 rfl rfl ?_
  refine ok_getR dX4_move_1 f_X4_16 (by first | exact is_lit hv (by decide) rfl | exact is_sq hv hq | exact is_row hv hq | exact is_pn hv hq (by assumption) | assumption) rfl (by first | exact rf hv rfl | exact rf_row hv hq | assumption) ?_
  refine ok_iload_n dX4_move_4 rfl rfl ?_
  refine ok_callV (M' := mX2_stands) (b' := (0, 0)) (As := [_]) (cx := 2) dX4_move_5 iX2_stands w_271 (by decide) rfl (by first | exact is_lit hv (by decide) rfl | exact is_sq hv hq | exact is_row hv hq | exact is_pn hv hq (by assumption) | assumption) rfl (Nat.le_of_ble_eq_true rfl) ⟨Nat.le_of_ble_eq_true rfl, Nat.le_of_ble_eq_true rfl⟩ (Nat.le_of_ble_eq_true rfl) rfl rfl ?_
  refine sp_X2_stands hv s2 _ ?_
  rw [h6, st_bad hb]
  refine ok_if_eq (tgt := 22) dX4_move_8 (by decide) (fun _ => ?_) (fun c9 => absurd rfl c9)
  refine ok_aload_n dX4_move_22 rfl rfl ?_
  refine ok_ldc dX4_move_23 w_253 ?_
  refine ok_callV (M' := mX4_finding) (b' := (0, 0)) (As := [_]) (cx := 4) dX4_move_25 iX4_finding w_254 (by decide) rfl (by first | exact is_lit hv (by decide) rfl | exact is_sq hv hq | exact is_row hv hq | exact is_pn hv hq (by assumption) | assumption) rfl (Nat.le_of_ble_eq_true rfl) ⟨Nat.le_of_ble_eq_true rfl, Nat.le_of_ble_eq_true rfl⟩ (Nat.le_of_ble_eq_true rfl) rfl rfl ?_
  refine sp_X4_finding hv (k := 0) (by decide) (by decide) ?_
  refine ok_ireturn dX4_move_28 rfl rfl ?_
  first | exact K | (simp only [↓reduceIte] at K; exact K)
theorem sp_X4_move_w {g : GG} {h : Hp} {Post : Option Value → Hp → Prop} {n : Nat} {r : Nat → Int32} (S : Hs h n r) {j : Nat} (hj : j < n) {t : Int32} (ht : t < 0 ∨ nI n ≤ t) (K : Post (some (.int (-1000000001))) (hfi h 0)) : Sp g mX4_move [.ref 0, .int (nI j), .int t] h Post := by
  show Go g mX4_move 0 [_, _, _] [] _ _ _
  have hv := S.1
  have hn := S.2.2.1
  have h6 := S.2.1.2.2.1
  have hq := s2
  have hj10 : j < 10 := by omega
  have ep : ∀ f, f < 7 → hI h (pn h 2 j) f = ro r j f := fun f hf => S.2.1.2.2.2.2 j f hj hf
  refine ok_aload_n dX4_move_0 rfl rfl ?_
  refine ok_getR dX4_move_1 f_X4_16 (by first | exact is_lit hv (by decide) rfl | exact is_sq hv hq | exact is_row hv hq | exact is_pn hv hq (by assumption) | assumption) rfl (by first | exact rf hv rfl | exact rf_row hv hq | assumption) ?_
  refine ok_iload_n dX4_move_4 rfl rfl ?_
  refine ok_callV (M' := mX2_stands) (b' := (0, 0)) (As := [_]) (cx := 2) dX4_move_5 iX2_stands w_271 (by decide) rfl (by first | exact is_lit hv (by decide) rfl | exact is_sq hv hq | exact is_row hv hq | exact is_pn hv hq (by assumption) | assumption) rfl (Nat.le_of_ble_eq_true rfl) ⟨Nat.le_of_ble_eq_true rfl, Nat.le_of_ble_eq_true rfl⟩ (Nat.le_of_ble_eq_true rfl) rfl rfl ?_
  refine sp_X2_stands hv s2 _ ?_
  rw [h6, st_ok hn hj]
  refine ok_if_eq (tgt := 22) dX4_move_8 (by decide) (fun c9 => absurd c9 (by decide)) (fun _ => ?_)
  refine ok_aload_n dX4_move_11 rfl rfl ?_
  refine ok_getR dX4_move_12 f_X4_16 (by first | exact is_lit hv (by decide) rfl | exact is_sq hv hq | exact is_row hv hq | exact is_pn hv hq (by assumption) | assumption) rfl (by first | exact rf hv rfl | exact rf_row hv hq | assumption) ?_
  refine ok_iload_n dX4_move_15 rfl rfl ?_
  refine ok_callV (M' := mX2_stands) (b' := (0, 0)) (As := [_]) (cx := 2) dX4_move_16 iX2_stands w_271 (by decide) rfl (by first | exact is_lit hv (by decide) rfl | exact is_sq hv hq | exact is_row hv hq | exact is_pn hv hq (by assumption) | assumption) rfl (Nat.le_of_ble_eq_true rfl) ⟨Nat.le_of_ble_eq_true rfl, Nat.le_of_ble_eq_true rfl⟩ (Nat.le_of_ble_eq_true rfl) rfl rfl ?_
  refine sp_X2_stands hv s2 _ ?_
  rw [h6, st_bad ht]
  refine ok_if_ne (tgt := 29) dX4_move_19 (by decide) (fun c9 => absurd c9 (fun c => c rfl)) (fun _ => ?_)
  refine ok_aload_n dX4_move_22 rfl rfl ?_
  refine ok_ldc dX4_move_23 w_253 ?_
  refine ok_callV (M' := mX4_finding) (b' := (0, 0)) (As := [_]) (cx := 4) dX4_move_25 iX4_finding w_254 (by decide) rfl (by first | exact is_lit hv (by decide) rfl | exact is_sq hv hq | exact is_row hv hq | exact is_pn hv hq (by assumption) | assumption) rfl (Nat.le_of_ble_eq_true rfl) ⟨Nat.le_of_ble_eq_true rfl, Nat.le_of_ble_eq_true rfl⟩ (Nat.le_of_ble_eq_true rfl) rfl rfl ?_
  refine sp_X4_finding hv (k := 0) (by decide) (by decide) ?_
  refine ok_ireturn dX4_move_28 rfl rfl ?_
  first | exact K | (simp only [↓reduceIte] at K; exact K)
theorem sp_X4_move {g : GG} {h : Hp} {Post : Option Value → Hp → Prop} {n : Nat} {r : Nat → Int32} (S : Hs h n r) {j : Nat} (hj : j < n) {t : Nat} (ht : t < n) (K : Post (some (.int (if 0 ≤ nI j - nI t then nI j - nI t else 0 - (nI j - nI t)))) (hmv h 2 j t)) : Sp g mX4_move [.ref 0, .int (nI j), .int (nI t)] h Post := by
  show Go g mX4_move 0 [_, _, _] [] _ _ _
  have hv := S.1
  have hn := S.2.2.1
  have h6 := S.2.1.2.2.1
  have hq := s2
  have hj10 : j < 10 := by omega
  have ep : ∀ f, f < 7 → hI h (pn h 2 j) f = ro r j f := fun f hf => S.2.1.2.2.2.2 j f hj hf
  refine ok_aload_n dX4_move_0 rfl rfl ?_
  refine ok_getR dX4_move_1 f_X4_16 (by first | exact is_lit hv (by decide) rfl | exact is_sq hv hq | exact is_row hv hq | exact is_pn hv hq (by assumption) | assumption) rfl (by first | exact rf hv rfl | exact rf_row hv hq | assumption) ?_
  refine ok_iload_n dX4_move_4 rfl rfl ?_
  refine ok_callV (M' := mX2_stands) (b' := (0, 0)) (As := [_]) (cx := 2) dX4_move_5 iX2_stands w_271 (by decide) rfl (by first | exact is_lit hv (by decide) rfl | exact is_sq hv hq | exact is_row hv hq | exact is_pn hv hq (by assumption) | assumption) rfl (Nat.le_of_ble_eq_true rfl) ⟨Nat.le_of_ble_eq_true rfl, Nat.le_of_ble_eq_true rfl⟩ (Nat.le_of_ble_eq_true rfl) rfl rfl ?_
  refine sp_X2_stands hv s2 _ ?_
  rw [h6, st_ok hn hj]
  refine ok_if_eq (tgt := 22) dX4_move_8 (by decide) (fun c9 => absurd c9 (by decide)) (fun _ => ?_)
  refine ok_aload_n dX4_move_11 rfl rfl ?_
  refine ok_getR dX4_move_12 f_X4_16 (by first | exact is_lit hv (by decide) rfl | exact is_sq hv hq | exact is_row hv hq | exact is_pn hv hq (by assumption) | assumption) rfl (by first | exact rf hv rfl | exact rf_row hv hq | assumption) ?_
  refine ok_iload_n dX4_move_15 rfl rfl ?_
  refine ok_callV (M' := mX2_stands) (b' := (0, 0)) (As := [_]) (cx := 2) dX4_move_16 iX2_stands w_271 (by decide) rfl (by first | exact is_lit hv (by decide) rfl | exact is_sq hv hq | exact is_row hv hq | exact is_pn hv hq (by assumption) | assumption) rfl (Nat.le_of_ble_eq_true rfl) ⟨Nat.le_of_ble_eq_true rfl, Nat.le_of_ble_eq_true rfl⟩ (Nat.le_of_ble_eq_true rfl) rfl rfl ?_
  refine sp_X2_stands hv s2 _ ?_
  rw [h6, st_ok hn ht]
  refine ok_if_ne (tgt := 29) dX4_move_19 (by decide) (fun _ => ?_) (fun c9 => absurd c9 (by decide))
  refine ok_aload_n dX4_move_29 rfl rfl ?_
  refine ok_getR dX4_move_30 f_X4_16 (by first | exact is_lit hv (by decide) rfl | exact is_sq hv hq | exact is_row hv hq | exact is_pn hv hq (by assumption) | assumption) rfl (by first | exact rf hv rfl | exact rf_row hv hq | assumption) ?_
  refine ok_iload_n dX4_move_33 rfl rfl ?_
  refine ok_iload_n dX4_move_34 rfl rfl ?_
  refine ok_callV (M' := mX2_walk) (b' := (0, 0)) (As := [_, _]) (cx := 2) dX4_move_35 iX2_walk w_323 (by decide) rfl (by first | exact is_lit hv (by decide) rfl | exact is_sq hv hq | exact is_row hv hq | exact is_pn hv hq (by assumption) | assumption) rfl (Nat.le_of_ble_eq_true rfl) ⟨Nat.le_of_ble_eq_true rfl, Nat.le_of_ble_eq_true rfl⟩ (Nat.le_of_ble_eq_true rfl) rfl rfl ?_
  refine sp_X2_walk hv s2 (by omega) (by omega) ?_
  refine ok_iload_n dX4_move_38 rfl rfl ?_
  refine ok_iload_n dX4_move_39 rfl rfl ?_
  refine ok_isub dX4_move_40 ?_
  refine ok_abs dX4_move_41 w_327 w_328 w_71 w_329 (Nat.le_of_ble_eq_true rfl) (Nat.le_of_ble_eq_true rfl) ?_
  refine ok_ireturn dX4_move_44 rfl rfl ?_
  first | exact K | (simp only [↓reduceIte] at K; exact K)
theorem sp_X4_leave_b {g : GG} {h : Hp} {Post : Option Value → Hp → Prop} {n : Nat} {r : Nat → Int32} (S : Hs h n r) (p : Int32) (hb : p < 0 ∨ nI n ≤ p) (K : Post (some (.int (-1000000001))) (hfi h 0)) : Sp g mX4_leave [.ref 0, .int p] h Post := by
  show Go g mX4_leave 0 [_, _, _] [] _ _ _
  have hv := S.1
  have hn := S.2.2.1
  have h6 := S.2.1.2.2.1
  have hq := s2
  refine ok_aload_n dX4_leave_0 rfl rfl ?_
  refine ok_getR dX4_leave_1 f_X4_16 (by first | exact is_lit hv (by decide) rfl | exact is_sq hv hq | exact is_row hv hq | exact is_pn hv hq (by assumption) | assumption) rfl (by first | exact rf hv rfl | exact rf_row hv hq | assumption) ?_
  refine ok_iload_n dX4_leave_4 rfl rfl ?_
  refine ok_callV (M' := mX2_stands) (b' := (0, 0)) (As := [_]) (cx := 2) dX4_leave_5 iX2_stands w_271 (by decide) rfl (by first | exact is_lit hv (by decide) rfl | exact is_sq hv hq | exact is_row hv hq | exact is_pn hv hq (by assumption) | assumption) rfl (Nat.le_of_ble_eq_true rfl) ⟨Nat.le_of_ble_eq_true rfl, Nat.le_of_ble_eq_true rfl⟩ (Nat.le_of_ble_eq_true rfl) rfl rfl ?_
  refine sp_X2_stands hv s2 _ ?_
  rw [h6, st_bad hb]
  refine ok_if_ne (tgt := 18) dX4_leave_8 (by decide) (fun c9 => absurd c9 (fun c => c rfl)) (fun _ => ?_)
  refine ok_aload_n dX4_leave_11 rfl rfl ?_
  refine ok_ldc dX4_leave_12 w_253 ?_
  refine ok_callV (M' := mX4_finding) (b' := (0, 0)) (As := [_]) (cx := 4) dX4_leave_14 iX4_finding w_254 (by decide) rfl (by first | exact is_lit hv (by decide) rfl | exact is_sq hv hq | exact is_row hv hq | exact is_pn hv hq (by assumption) | assumption) rfl (Nat.le_of_ble_eq_true rfl) ⟨Nat.le_of_ble_eq_true rfl, Nat.le_of_ble_eq_true rfl⟩ (Nat.le_of_ble_eq_true rfl) rfl rfl ?_
  refine sp_X4_finding hv (k := 0) (by decide) (by decide) ?_
  refine ok_ireturn dX4_leave_17 rfl rfl ?_
  first | exact K | (simp only [↓reduceIte] at K; exact K)
theorem sp_X4_leave {g : GG} {h : Hp} {Post : Option Value → Hp → Prop} {n : Nat} {r : Nat → Int32} (S : Hs h (n + 1) r) {j : Nat} (hj : j < n + 1) (K : Post (some (.int (ro r j 5))) (uI (hmv h 2 j n) 2 6 (nI n))) : Sp g mX4_leave [.ref 0, .int (nI j)] h Post := by
  show Go g mX4_leave 0 [_, _, _] [] _ _ _
  have hv := S.1
  have hn := S.2.2.1
  have h6 := S.2.1.2.2.1
  have hq := s2
  have hj10 : j < 10 := by omega
  have ep : ∀ f, f < 7 → hI h (pn h 2 j) f = ro r j f := fun f hf => S.2.1.2.2.2.2 j f hj hf
  refine ok_aload_n dX4_leave_0 rfl rfl ?_
  refine ok_getR dX4_leave_1 f_X4_16 (by first | exact is_lit hv (by decide) rfl | exact is_sq hv hq | exact is_row hv hq | exact is_pn hv hq (by assumption) | assumption) rfl (by first | exact rf hv rfl | exact rf_row hv hq | assumption) ?_
  refine ok_iload_n dX4_leave_4 rfl rfl ?_
  refine ok_callV (M' := mX2_stands) (b' := (0, 0)) (As := [_]) (cx := 2) dX4_leave_5 iX2_stands w_271 (by decide) rfl (by first | exact is_lit hv (by decide) rfl | exact is_sq hv hq | exact is_row hv hq | exact is_pn hv hq (by assumption) | assumption) rfl (Nat.le_of_ble_eq_true rfl) ⟨Nat.le_of_ble_eq_true rfl, Nat.le_of_ble_eq_true rfl⟩ (Nat.le_of_ble_eq_true rfl) rfl rfl ?_
  refine sp_X2_stands hv s2 _ ?_
  rw [h6, st_ok hn hj]
  refine ok_if_ne (tgt := 18) dX4_leave_8 (by decide) (fun _ => ?_) (fun c9 => absurd c9 (by decide))
  refine ok_aload_n dX4_leave_18 rfl rfl ?_
  refine ok_getR dX4_leave_19 f_X4_16 (by first | exact is_lit hv (by decide) rfl | exact is_sq hv hq | exact is_row hv hq | exact is_pn hv hq (by assumption) | assumption) rfl (by first | exact rf hv rfl | exact rf_row hv hq | assumption) ?_
  refine ok_getR dX4_leave_22 f_X4_64 (is_sq hv hq) rfl (rf_row hv hq) ?_
  refine ok_iload_n dX4_leave_25 rfl rfl ?_
  refine ok_aaloadP dX4_leave_26 (by first | exact is_lit hv (by decide) rfl | exact is_sq hv hq | exact is_row hv hq | exact is_pn hv hq (by assumption) | assumption) (by first | (unfold vp_in; decide) | exact vp_in_nI (by assumption) (by decide) | exact vp_in_nI (by omega) (by decide) | assumption) (by first | exact rf_nI hv hq (by assumption) | assumption) ?_
  refine ok_getI dX4_leave_27 f_X4_85 (by first | exact is_lit hv (by decide) rfl | exact is_sq hv hq | exact is_row hv hq | exact is_pn hv hq (by assumption) | assumption) rfl ?_
  rw [ep 5 (by decide)]
  refine ok_istore_n (lo' := [_, _, _]) dX4_leave_30 rfl (Nat.le_of_ble_eq_true rfl) rfl rfl ?_
  refine ok_aload_n dX4_leave_31 rfl rfl ?_
  refine ok_getR dX4_leave_32 f_X4_16 (by first | exact is_lit hv (by decide) rfl | exact is_sq hv hq | exact is_row hv hq | exact is_pn hv hq (by assumption) | assumption) rfl (by first | exact rf hv rfl | exact rf_row hv hq | assumption) ?_
  refine ok_iload_n dX4_leave_35 rfl rfl ?_
  refine ok_callV (M' := mX2_goAway) (b' := (0, 0)) (As := [_]) (cx := 2) dX4_leave_36 iX2_goAway w_334 (by decide) rfl (by first | exact is_lit hv (by decide) rfl | exact is_sq hv hq | exact is_row hv hq | exact is_pn hv hq (by assumption) | assumption) rfl (Nat.le_of_ble_eq_true rfl) ⟨Nat.le_of_ble_eq_true rfl, Nat.le_of_ble_eq_true rfl⟩ (Nat.le_of_ble_eq_true rfl) rfl rfl ?_
  refine sp_X2_goAway hv s2 (by omega) h6 hj ?_
  refine ok_iload_n dX4_leave_39 rfl rfl ?_
  refine ok_ireturn dX4_leave_40 rfl rfl ?_
  first | exact K | (simp only [↓reduceIte] at K; exact K)
theorem sp_X4_coins_b {g : GG} {h : Hp} {Post : Option Value → Hp → Prop} {n : Nat} {r : Nat → Int32} (S : Hs h n r) (v : Int32) (hb : v < 0 ∨ 999 < v) (K : Post (some (.int (-1000000001))) (hfi h 0)) : Sp g mX4_coins [.ref 0, .int v] h Post := by
  show Go g mX4_coins 0 [_, _, _] [] _ _ _
  have hv := S.1
  have hn := S.2.2.1
  have h6 := S.2.1.2.2.1
  have hq := s2
  refine ok_iload_n dX4_coins_0 rfl rfl ?_
  refine ok_iconst (v := 0) dX4_coins_1 (by decide) ?_
  refine ok_sipush (v := 999) dX4_coins_2 (by decide) ?_
  refine ok_callS (M' := mX4_isWithin) (b' := (0, 0)) (As := [_, _, _]) dX4_coins_5 iX4_isWithin w_302 rfl (Nat.le_of_ble_eq_true rfl) ⟨Nat.le_of_ble_eq_true rfl, Nat.le_of_ble_eq_true rfl⟩ (Nat.le_of_ble_eq_true rfl) rfl rfl ?_
  refine sp_X4_isWithin _ _ _ ?_
  rw [wi_bad hb]
  refine ok_if_ne (tgt := 18) dX4_coins_8 (by decide) (fun c9 => absurd c9 (fun c => c rfl)) (fun _ => ?_)
  refine ok_aload_n dX4_coins_11 rfl rfl ?_
  refine ok_ldc dX4_coins_12 w_253 ?_
  refine ok_callV (M' := mX4_finding) (b' := (0, 0)) (As := [_]) (cx := 4) dX4_coins_14 iX4_finding w_254 (by decide) rfl (by first | exact is_lit hv (by decide) rfl | exact is_sq hv hq | exact is_row hv hq | exact is_pn hv hq (by assumption) | assumption) rfl (Nat.le_of_ble_eq_true rfl) ⟨Nat.le_of_ble_eq_true rfl, Nat.le_of_ble_eq_true rfl⟩ (Nat.le_of_ble_eq_true rfl) rfl rfl ?_
  refine sp_X4_finding hv (k := 0) (by decide) (by decide) ?_
  refine ok_ireturn dX4_coins_17 rfl rfl ?_
  first | exact K | (simp only [↓reduceIte] at K; exact K)
theorem sp_X4_coins {g : GG} {h : Hp} {Post : Option Value → Hp → Prop} {n : Nat} {r : Nat → Int32} (S : Hs h n r) (v : Int32) (h1 : ¬ v < 0) (h2 : ¬ 999 < v) (K : Post (some (.int (r 1))) (uI h 2 0 v)) : Sp g mX4_coins [.ref 0, .int v] h Post := by
  show Go g mX4_coins 0 [_, _, _] [] _ _ _
  have hv := S.1
  have hn := S.2.2.1
  have h6 := S.2.1.2.2.1
  have hq := s2
  refine ok_iload_n dX4_coins_0 rfl rfl ?_
  refine ok_iconst (v := 0) dX4_coins_1 (by decide) ?_
  refine ok_sipush (v := 999) dX4_coins_2 (by decide) ?_
  refine ok_callS (M' := mX4_isWithin) (b' := (0, 0)) (As := [_, _, _]) dX4_coins_5 iX4_isWithin w_302 rfl (Nat.le_of_ble_eq_true rfl) ⟨Nat.le_of_ble_eq_true rfl, Nat.le_of_ble_eq_true rfl⟩ (Nat.le_of_ble_eq_true rfl) rfl rfl ?_
  refine sp_X4_isWithin _ _ _ ?_
  rw [wi_ok h1 h2]
  refine ok_if_ne (tgt := 18) dX4_coins_8 (by decide) (fun _ => ?_) (fun c9 => absurd c9 (by decide))
  refine ok_aload_n dX4_coins_18 rfl rfl ?_
  refine ok_getR dX4_coins_19 f_X4_16 (by first | exact is_lit hv (by decide) rfl | exact is_sq hv hq | exact is_row hv hq | exact is_pn hv hq (by assumption) | assumption) rfl (by first | exact rf hv rfl | exact rf_row hv hq | assumption) ?_
  refine ok_getI dX4_coins_22 f_X4_126 (by first | exact is_lit hv (by decide) rfl | exact is_sq hv hq | exact is_row hv hq | exact is_pn hv hq (by assumption) | assumption) rfl ?_
  rw [S.2.1.2.2.2.1 0 (by decide)]
  refine ok_istore_n (lo' := [_, _, _]) dX4_coins_25 rfl (Nat.le_of_ble_eq_true rfl) rfl rfl ?_
  refine ok_aload_n dX4_coins_26 rfl rfl ?_
  refine ok_getR dX4_coins_27 f_X4_16 (by first | exact is_lit hv (by decide) rfl | exact is_sq hv hq | exact is_row hv hq | exact is_pn hv hq (by assumption) | assumption) rfl (by first | exact rf hv rfl | exact rf_row hv hq | assumption) ?_
  refine ok_iload_n dX4_coins_30 rfl rfl ?_
  refine ok_putI dX4_coins_31 f_X4_126 (by first | exact is_lit hv (by decide) rfl | exact is_sq hv hq | exact is_row hv hq | exact is_pn hv hq (by assumption) | assumption) rfl rfl rfl rfl ?_
  refine ok_iload_n dX4_coins_34 rfl rfl ?_
  refine ok_ireturn dX4_coins_35 rfl rfl ?_
  first | exact K | (simp only [↓reduceIte] at K; exact K)
theorem sp_X4_law_b {g : GG} {h : Hp} {Post : Option Value → Hp → Prop} {n : Nat} {r : Nat → Int32} (S : Hs h n r) (v : Int32) (hb : v < 0 ∨ 2 < v) (K : Post (some (.int (-1000000001))) (hfi h 0)) : Sp g mX4_law [.ref 0, .int v] h Post := by
  show Go g mX4_law 0 [_, _, _] [] _ _ _
  have hv := S.1
  have hn := S.2.2.1
  have h6 := S.2.1.2.2.1
  have hq := s2
  refine ok_iload_n dX4_law_0 rfl rfl ?_
  refine ok_iconst (v := 0) dX4_law_1 (by decide) ?_
  refine ok_iconst (v := 2) dX4_law_2 (by decide) ?_
  refine ok_callS (M' := mX4_isWithin) (b' := (0, 0)) (As := [_, _, _]) dX4_law_3 iX4_isWithin w_302 rfl (Nat.le_of_ble_eq_true rfl) ⟨Nat.le_of_ble_eq_true rfl, Nat.le_of_ble_eq_true rfl⟩ (Nat.le_of_ble_eq_true rfl) rfl rfl ?_
  refine sp_X4_isWithin _ _ _ ?_
  rw [wi_bad hb]
  refine ok_if_ne (tgt := 16) dX4_law_6 (by decide) (fun c9 => absurd c9 (fun c => c rfl)) (fun _ => ?_)
  refine ok_aload_n dX4_law_9 rfl rfl ?_
  refine ok_ldc dX4_law_10 w_253 ?_
  refine ok_callV (M' := mX4_finding) (b' := (0, 0)) (As := [_]) (cx := 4) dX4_law_12 iX4_finding w_254 (by decide) rfl (by first | exact is_lit hv (by decide) rfl | exact is_sq hv hq | exact is_row hv hq | exact is_pn hv hq (by assumption) | assumption) rfl (Nat.le_of_ble_eq_true rfl) ⟨Nat.le_of_ble_eq_true rfl, Nat.le_of_ble_eq_true rfl⟩ (Nat.le_of_ble_eq_true rfl) rfl rfl ?_
  refine sp_X4_finding hv (k := 0) (by decide) (by decide) ?_
  refine ok_ireturn dX4_law_15 rfl rfl ?_
  first | exact K | (simp only [↓reduceIte] at K; exact K)
theorem sp_X4_law {g : GG} {h : Hp} {Post : Option Value → Hp → Prop} {n : Nat} {r : Nat → Int32} (S : Hs h n r) (v : Int32) (h1 : ¬ v < 0) (h2 : ¬ 2 < v) (K : Post (some (.int (r 2))) (uI h 2 1 v)) : Sp g mX4_law [.ref 0, .int v] h Post := by
  show Go g mX4_law 0 [_, _, _] [] _ _ _
  have hv := S.1
  have hn := S.2.2.1
  have h6 := S.2.1.2.2.1
  have hq := s2
  refine ok_iload_n dX4_law_0 rfl rfl ?_
  refine ok_iconst (v := 0) dX4_law_1 (by decide) ?_
  refine ok_iconst (v := 2) dX4_law_2 (by decide) ?_
  refine ok_callS (M' := mX4_isWithin) (b' := (0, 0)) (As := [_, _, _]) dX4_law_3 iX4_isWithin w_302 rfl (Nat.le_of_ble_eq_true rfl) ⟨Nat.le_of_ble_eq_true rfl, Nat.le_of_ble_eq_true rfl⟩ (Nat.le_of_ble_eq_true rfl) rfl rfl ?_
  refine sp_X4_isWithin _ _ _ ?_
  rw [wi_ok h1 h2]
  refine ok_if_ne (tgt := 16) dX4_law_6 (by decide) (fun _ => ?_) (fun c9 => absurd c9 (by decide))
  refine ok_aload_n dX4_law_16 rfl rfl ?_
  refine ok_getR dX4_law_17 f_X4_16 (by first | exact is_lit hv (by decide) rfl | exact is_sq hv hq | exact is_row hv hq | exact is_pn hv hq (by assumption) | assumption) rfl (by first | exact rf hv rfl | exact rf_row hv hq | assumption) ?_
  refine ok_getI dX4_law_20 f_X4_129 (by first | exact is_lit hv (by decide) rfl | exact is_sq hv hq | exact is_row hv hq | exact is_pn hv hq (by assumption) | assumption) rfl ?_
  rw [S.2.1.2.2.2.1 1 (by decide)]
  refine ok_istore_n (lo' := [_, _, _]) dX4_law_23 rfl (Nat.le_of_ble_eq_true rfl) rfl rfl ?_
  refine ok_aload_n dX4_law_24 rfl rfl ?_
  refine ok_getR dX4_law_25 f_X4_16 (by first | exact is_lit hv (by decide) rfl | exact is_sq hv hq | exact is_row hv hq | exact is_pn hv hq (by assumption) | assumption) rfl (by first | exact rf hv rfl | exact rf_row hv hq | assumption) ?_
  refine ok_iload_n dX4_law_28 rfl rfl ?_
  refine ok_putI dX4_law_29 f_X4_129 (by first | exact is_lit hv (by decide) rfl | exact is_sq hv hq | exact is_row hv hq | exact is_pn hv hq (by assumption) | assumption) rfl rfl rfl rfl ?_
  refine ok_iload_n dX4_law_32 rfl rfl ?_
  refine ok_ireturn dX4_law_33 rfl rfl ?_
  first | exact K | (simp only [↓reduceIte] at K; exact K)
theorem sp_X4_diver_b {g : GG} {h : Hp} {Post : Option Value → Hp → Prop} {n : Nat} {r : Nat → Int32} (S : Hs h n r) (w l : Int32) (hb : l < -20 ∨ 20 < l) (K : Post (some (.int (-1000000001))) (hfi h 0)) : Sp g mX4_diver [.ref 0, .int w, .int l] h Post := by
  show Go g mX4_diver 0 [_, _, _, _] [] _ _ _
  have hv := S.1
  have hn := S.2.2.1
  have h6 := S.2.1.2.2.1
  have hq := s2
  refine ok_iload_n dX4_diver_0 rfl rfl ?_
  refine ok_bipush (v := -20) dX4_diver_1 (by decide) ?_
  refine ok_bipush (v := 20) dX4_diver_3 (by decide) ?_
  refine ok_callS (M' := mX4_isWithin) (b' := (0, 0)) (As := [_, _, _]) dX4_diver_5 iX4_isWithin w_302 rfl (Nat.le_of_ble_eq_true rfl) ⟨Nat.le_of_ble_eq_true rfl, Nat.le_of_ble_eq_true rfl⟩ (Nat.le_of_ble_eq_true rfl) rfl rfl ?_
  refine sp_X4_isWithin _ _ _ ?_
  rw [wi_bad hb]
  refine ok_if_ne (tgt := 18) dX4_diver_8 (by decide) (fun c9 => absurd c9 (fun c => c rfl)) (fun _ => ?_)
  refine ok_aload_n dX4_diver_11 rfl rfl ?_
  refine ok_ldc dX4_diver_12 w_253 ?_
  refine ok_callV (M' := mX4_finding) (b' := (0, 0)) (As := [_]) (cx := 4) dX4_diver_14 iX4_finding w_254 (by decide) rfl (by first | exact is_lit hv (by decide) rfl | exact is_sq hv hq | exact is_row hv hq | exact is_pn hv hq (by assumption) | assumption) rfl (Nat.le_of_ble_eq_true rfl) ⟨Nat.le_of_ble_eq_true rfl, Nat.le_of_ble_eq_true rfl⟩ (Nat.le_of_ble_eq_true rfl) rfl rfl ?_
  refine sp_X4_finding hv (k := 0) (by decide) (by decide) ?_
  refine ok_ireturn dX4_diver_17 rfl rfl ?_
  first | exact K | (simp only [↓reduceIte] at K; exact K)
theorem one_b {x : Int32} (hx : B01 x) : (if x = 0 then (0 : Int32) else 1) = x := by rcases hx with rfl | rfl <;> rfl
theorem sp_X4_diver {g : GG} {h : Hp} {Post : Option Value → Hp → Prop} {n : Nat} {r : Nat → Int32} (S : Hs h n r) {w l : Int32} (hw : B01 w) (h1 : ¬ l < -20) (h2 : ¬ 20 < l) (K : Post (some (.int (r 3))) (uI (uI h 2 2 w) 2 3 (if w = 0 then 0 else l))) : Sp g mX4_diver [.ref 0, .int w, .int l] h Post := by
  show Go g mX4_diver 0 [_, _, _, _] [] _ _ _
  have hv := S.1
  have hn := S.2.2.1
  have h6 := S.2.1.2.2.1
  have hq := s2
  refine ok_iload_n dX4_diver_0 rfl rfl ?_
  refine ok_bipush (v := -20) dX4_diver_1 (by decide) ?_
  refine ok_bipush (v := 20) dX4_diver_3 (by decide) ?_
  refine ok_callS (M' := mX4_isWithin) (b' := (0, 0)) (As := [_, _, _]) dX4_diver_5 iX4_isWithin w_302 rfl (Nat.le_of_ble_eq_true rfl) ⟨Nat.le_of_ble_eq_true rfl, Nat.le_of_ble_eq_true rfl⟩ (Nat.le_of_ble_eq_true rfl) rfl rfl ?_
  refine sp_X4_isWithin _ _ _ ?_
  rw [wi_ok h1 h2]
  refine ok_if_ne (tgt := 18) dX4_diver_8 (by decide) (fun _ => ?_) (fun c9 => absurd c9 (by decide))
  refine ok_aload_n dX4_diver_18 rfl rfl ?_
  refine ok_getR dX4_diver_19 f_X4_16 (by first | exact is_lit hv (by decide) rfl | exact is_sq hv hq | exact is_row hv hq | exact is_pn hv hq (by assumption) | assumption) rfl (by first | exact rf hv rfl | exact rf_row hv hq | assumption) ?_
  refine ok_getI dX4_diver_22 f_X4_132 (by first | exact is_lit hv (by decide) rfl | exact is_sq hv hq | exact is_row hv hq | exact is_pn hv hq (by assumption) | assumption) rfl ?_
  refine ok_callS (M' := mX4_oneIf) (b' := (0, 0)) (As := [_]) dX4_diver_25 iX4_oneIf w_351 rfl (Nat.le_of_ble_eq_true rfl) ⟨Nat.le_of_ble_eq_true rfl, Nat.le_of_ble_eq_true rfl⟩ (Nat.le_of_ble_eq_true rfl) rfl rfl ?_
  rw [S.2.1.2.2.2.1 2 (by decide)]
  refine sp_X4_oneIf _ ?_
  rw [one_b S.2.2.2.2.2.1]
  refine ok_istore_n (lo' := [_, _, _, _]) dX4_diver_28 rfl (Nat.le_of_ble_eq_true rfl) rfl rfl ?_
  refine ok_aload_n dX4_diver_29 rfl rfl ?_
  refine ok_getR dX4_diver_30 f_X4_16 (by first | exact is_lit hv (by decide) rfl | exact is_sq hv hq | exact is_row hv hq | exact is_pn hv hq (by assumption) | assumption) rfl (by first | exact rf hv rfl | exact rf_row hv hq | assumption) ?_
  refine ok_iload_n dX4_diver_33 rfl rfl ?_
  refine ok_iload_n dX4_diver_34 rfl rfl ?_
  refine ok_callV (M' := mX2_hear) (b' := (0, 0)) (As := [_, _]) (cx := 2) dX4_diver_35 iX2_hear w_354 (by decide) rfl (by first | exact is_lit hv (by decide) rfl | exact is_sq hv hq | exact is_row hv hq | exact is_pn hv hq (by assumption) | assumption) rfl (Nat.le_of_ble_eq_true rfl) ⟨Nat.le_of_ble_eq_true rfl, Nat.le_of_ble_eq_true rfl⟩ (Nat.le_of_ble_eq_true rfl) rfl rfl ?_
  refine sp_X2_hear hv s2 hw _ ?_
  refine ok_iload_n dX4_diver_38 rfl rfl ?_
  refine ok_ireturn dX4_diver_39 rfl rfl ?_
  first | exact K | (simp only [↓reduceIte] at K; exact K)
def w_now (r : Nat → Int32) (n w : Nat) : Int32 := if w = 0 then r 5 else if w = 1 then r 1 else if w = 2 then r 2 else if w = 3 then r 3 else if w = 4 then r 4 else if w = 5 then r 6 else if w = 6 then w_sum (fun p => ro r p 1) n else if w = 7 then w_sum (fun p => ro r p 5) n else w_sum (fun p => ro r p 6) n
theorem sum_rep {h : Hp} {q n f : Nat} {r : Nat → Int32} (R : Rep h q n r) (hf : f < 7) : w_sum (fun p => pf h q p f) n = w_sum (fun p => ro r p f) n := w_sum_congr (fun p hp => R.2.2.2.2 p f hp hf)
theorem sp_X4_now {g : GG} {h : Hp} {Post : Option Value → Hp → Prop} {n : Nat} {r : Nat → Int32} (S : Hs h n r) {w : Nat} (hw : w < 9) (K : Post (some (.int (w_now r n w))) h) : Sp g mX4_now [.ref 0, .int (nI w)] h Post := by
  show Go g mX4_now 0 [_, _] [] _ _ _
  have hv := S.1
  have hn := S.2.2.1
  have h6 := S.2.1.2.2.1
  have hq := s2
  refine ok_iload_n dX4_now_0 rfl rfl ?_
  rcases (show w = 0 ∨ w = 1 ∨ w = 2 ∨ w = 3 ∨ w = 4 ∨ w = 5 ∨ w = 6 ∨ w = 7 ∨ w = 8 by omega) with ew | ew | ew | ew | ew | ew | ew | ew | ew
  · subst ew
    refine ok_tableIn (tgt := 52) (off := 51) dX4_now_1 (by decide) (by decide) (by decide) (by decide) ?_
    refine ok_aload_n dX4_now_52 rfl rfl ?_
    refine ok_getR dX4_now_53 f_X4_16 (by first | exact is_lit hv (by decide) rfl | exact is_sq hv hq | exact is_row hv hq | exact is_pn hv hq (by assumption) | assumption) rfl (by first | exact rf hv rfl | exact rf_row hv hq | assumption) ?_
    refine ok_getI dX4_now_56 f_X4_143 (by first | exact is_lit hv (by decide) rfl | exact is_sq hv hq | exact is_row hv hq | exact is_pn hv hq (by assumption) | assumption) rfl ?_
    refine ok_ireturn dX4_now_59 rfl rfl ?_
    first | exact K | (rw [S.2.1.2.2.2.1 _ (by decide)]; exact K)
  · subst ew
    refine ok_tableIn (tgt := 60) (off := 59) dX4_now_1 (by decide) (by decide) (by decide) (by decide) ?_
    refine ok_aload_n dX4_now_60 rfl rfl ?_
    refine ok_getR dX4_now_61 f_X4_16 (by first | exact is_lit hv (by decide) rfl | exact is_sq hv hq | exact is_row hv hq | exact is_pn hv hq (by assumption) | assumption) rfl (by first | exact rf hv rfl | exact rf_row hv hq | assumption) ?_
    refine ok_getI dX4_now_64 f_X4_126 (by first | exact is_lit hv (by decide) rfl | exact is_sq hv hq | exact is_row hv hq | exact is_pn hv hq (by assumption) | assumption) rfl ?_
    refine ok_ireturn dX4_now_67 rfl rfl ?_
    first | exact K | (rw [S.2.1.2.2.2.1 _ (by decide)]; exact K)
  · subst ew
    refine ok_tableIn (tgt := 68) (off := 67) dX4_now_1 (by decide) (by decide) (by decide) (by decide) ?_
    refine ok_aload_n dX4_now_68 rfl rfl ?_
    refine ok_getR dX4_now_69 f_X4_16 (by first | exact is_lit hv (by decide) rfl | exact is_sq hv hq | exact is_row hv hq | exact is_pn hv hq (by assumption) | assumption) rfl (by first | exact rf hv rfl | exact rf_row hv hq | assumption) ?_
    refine ok_getI dX4_now_72 f_X4_129 (by first | exact is_lit hv (by decide) rfl | exact is_sq hv hq | exact is_row hv hq | exact is_pn hv hq (by assumption) | assumption) rfl ?_
    refine ok_ireturn dX4_now_75 rfl rfl ?_
    first | exact K | (rw [S.2.1.2.2.2.1 _ (by decide)]; exact K)
  · subst ew
    refine ok_tableIn (tgt := 76) (off := 75) dX4_now_1 (by decide) (by decide) (by decide) (by decide) ?_
    refine ok_aload_n dX4_now_76 rfl rfl ?_
    refine ok_getR dX4_now_77 f_X4_16 (by first | exact is_lit hv (by decide) rfl | exact is_sq hv hq | exact is_row hv hq | exact is_pn hv hq (by assumption) | assumption) rfl (by first | exact rf hv rfl | exact rf_row hv hq | assumption) ?_
    refine ok_getI dX4_now_80 f_X4_132 (by first | exact is_lit hv (by decide) rfl | exact is_sq hv hq | exact is_row hv hq | exact is_pn hv hq (by assumption) | assumption) rfl ?_
    refine ok_callS (M' := mX4_oneIf) (b' := (0, 0)) (As := [_]) dX4_now_83 iX4_oneIf w_351 rfl (Nat.le_of_ble_eq_true rfl) ⟨Nat.le_of_ble_eq_true rfl, Nat.le_of_ble_eq_true rfl⟩ (Nat.le_of_ble_eq_true rfl) rfl rfl ?_
    rw [S.2.1.2.2.2.1 2 (by decide)]
    refine sp_X4_oneIf _ ?_
    rw [one_b S.2.2.2.2.2.1]
    refine ok_ireturn dX4_now_86 rfl rfl ?_
    first | exact K | (rw [S.2.1.2.2.2.1 _ (by decide)]; exact K)
  · subst ew
    refine ok_tableIn (tgt := 87) (off := 86) dX4_now_1 (by decide) (by decide) (by decide) (by decide) ?_
    refine ok_aload_n dX4_now_87 rfl rfl ?_
    refine ok_getR dX4_now_88 f_X4_16 (by first | exact is_lit hv (by decide) rfl | exact is_sq hv hq | exact is_row hv hq | exact is_pn hv hq (by assumption) | assumption) rfl (by first | exact rf hv rfl | exact rf_row hv hq | assumption) ?_
    refine ok_getI dX4_now_91 f_X4_150 (by first | exact is_lit hv (by decide) rfl | exact is_sq hv hq | exact is_row hv hq | exact is_pn hv hq (by assumption) | assumption) rfl ?_
    refine ok_ireturn dX4_now_94 rfl rfl ?_
    first | exact K | (rw [S.2.1.2.2.2.1 _ (by decide)]; exact K)
  · subst ew
    refine ok_tableIn (tgt := 95) (off := 94) dX4_now_1 (by decide) (by decide) (by decide) (by decide) ?_
    refine ok_aload_n dX4_now_95 rfl rfl ?_
    refine ok_getR dX4_now_96 f_X4_16 (by first | exact is_lit hv (by decide) rfl | exact is_sq hv hq | exact is_row hv hq | exact is_pn hv hq (by assumption) | assumption) rfl (by first | exact rf hv rfl | exact rf_row hv hq | assumption) ?_
    refine ok_getI dX4_now_99 f_X4_153 (by first | exact is_lit hv (by decide) rfl | exact is_sq hv hq | exact is_row hv hq | exact is_pn hv hq (by assumption) | assumption) rfl ?_
    refine ok_ireturn dX4_now_102 rfl rfl ?_
    first | exact K | (rw [S.2.1.2.2.2.1 _ (by decide)]; exact K)
  · subst ew
    refine ok_tableIn (tgt := 103) (off := 102) dX4_now_1 (by decide) (by decide) (by decide) (by decide) ?_
    refine ok_aload_n dX4_now_103 rfl rfl ?_
    refine ok_getR dX4_now_104 f_X4_16 (by first | exact is_lit hv (by decide) rfl | exact is_sq hv hq | exact is_row hv hq | exact is_pn hv hq (by assumption) | assumption) rfl (by first | exact rf hv rfl | exact rf_row hv hq | assumption) ?_
    refine ok_callV (M' := mX2_allPurses) (b' := (0, 0)) (As := []) (cx := 2) dX4_now_107 iX2_allPurses w_385 (by decide) rfl (by first | exact is_lit hv (by decide) rfl | exact is_sq hv hq | exact is_row hv hq | exact is_pn hv hq (by assumption) | assumption) rfl (Nat.le_of_ble_eq_true rfl) ⟨Nat.le_of_ble_eq_true rfl, Nat.le_of_ble_eq_true rfl⟩ (Nat.le_of_ble_eq_true rfl) rfl rfl ?_
    refine sp_X2_allPurses hv s2 hn h6 ?_
    rw [sum_rep S.2.1 (by decide)]
    refine ok_ireturn dX4_now_110 rfl rfl ?_
    first | exact K | (rw [S.2.1.2.2.2.1 _ (by decide)]; exact K)
  · subst ew
    refine ok_tableIn (tgt := 111) (off := 110) dX4_now_1 (by decide) (by decide) (by decide) (by decide) ?_
    refine ok_aload_n dX4_now_111 rfl rfl ?_
    refine ok_getR dX4_now_112 f_X4_16 (by first | exact is_lit hv (by decide) rfl | exact is_sq hv hq | exact is_row hv hq | exact is_pn hv hq (by assumption) | assumption) rfl (by first | exact rf hv rfl | exact rf_row hv hq | assumption) ?_
    refine ok_callV (M' := mX2_allPails) (b' := (0, 0)) (As := []) (cx := 2) dX4_now_115 iX2_allPails w_389 (by decide) rfl (by first | exact is_lit hv (by decide) rfl | exact is_sq hv hq | exact is_row hv hq | exact is_pn hv hq (by assumption) | assumption) rfl (Nat.le_of_ble_eq_true rfl) ⟨Nat.le_of_ble_eq_true rfl, Nat.le_of_ble_eq_true rfl⟩ (Nat.le_of_ble_eq_true rfl) rfl rfl ?_
    refine sp_X2_allPails hv s2 hn h6 ?_
    rw [sum_rep S.2.1 (by decide)]
    refine ok_ireturn dX4_now_118 rfl rfl ?_
    first | exact K | (rw [S.2.1.2.2.2.1 _ (by decide)]; exact K)
  · subst ew
    refine ok_tableIn (tgt := 119) (off := 118) dX4_now_1 (by decide) (by decide) (by decide) (by decide) ?_
    refine ok_aload_n dX4_now_119 rfl rfl ?_
    refine ok_getR dX4_now_120 f_X4_16 (by first | exact is_lit hv (by decide) rfl | exact is_sq hv hq | exact is_row hv hq | exact is_pn hv hq (by assumption) | assumption) rfl (by first | exact rf hv rfl | exact rf_row hv hq | assumption) ?_
    refine ok_callV (M' := mX2_allDry) (b' := (0, 0)) (As := []) (cx := 2) dX4_now_123 iX2_allDry w_393 (by decide) rfl (by first | exact is_lit hv (by decide) rfl | exact is_sq hv hq | exact is_row hv hq | exact is_pn hv hq (by assumption) | assumption) rfl (Nat.le_of_ble_eq_true rfl) ⟨Nat.le_of_ble_eq_true rfl, Nat.le_of_ble_eq_true rfl⟩ (Nat.le_of_ble_eq_true rfl) rfl rfl ?_
    refine sp_X2_allDry hv s2 hn h6 ?_
    rw [sum_rep S.2.1 (by decide)]
    refine ok_ireturn dX4_now_126 rfl rfl ?_
    first | exact K | (rw [S.2.1.2.2.2.1 _ (by decide)]; exact K)
theorem sp_X4_now_w {g : GG} {h : Hp} {Post : Option Value → Hp → Prop} {n : Nat} {r : Nat → Int32} (S : Hs h n r) {w : Int32} (hw : w.toInt < 0 ∨ 8 < w.toInt) (K : Post (some (.int (-1000000001))) (hfi h 0)) : Sp g mX4_now [.ref 0, .int w] h Post := by
  show Go g mX4_now 0 [_, _] [] _ _ _
  have hv := S.1
  have hn := S.2.2.1
  have h6 := S.2.1.2.2.1
  have hq := s2
  refine ok_iload_n dX4_now_0 rfl rfl ?_
  skip
  · refine ok_tableOut (tgt := 127) dX4_now_1 hw (by decide) ?_
    refine ok_aload_n dX4_now_127 rfl rfl ?_
    refine ok_ldc dX4_now_128 w_253 ?_
    refine ok_callV (M' := mX4_finding) (b' := (0, 0)) (As := [_]) (cx := 4) dX4_now_130 iX4_finding w_254 (by decide) rfl (by first | exact is_lit hv (by decide) rfl | exact is_sq hv hq | exact is_row hv hq | exact is_pn hv hq (by assumption) | assumption) rfl (Nat.le_of_ble_eq_true rfl) ⟨Nat.le_of_ble_eq_true rfl, Nat.le_of_ble_eq_true rfl⟩ (Nat.le_of_ble_eq_true rfl) rfl rfl ?_
    refine sp_X4_finding hv (k := 0) (by decide) (by decide) ?_
    refine ok_ireturn dX4_now_133 rfl rfl ?_
    first | exact K | (simp only [↓reduceIte] at K; exact K)
