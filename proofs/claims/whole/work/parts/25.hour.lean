/-! ===== squares: an hour ===== -/
theorem sp_X2_throwerAt {g : GG} {h : Hp} {Post : Option Value → Hp → Prop} (hv : Inv h) {q : Nat} (hq : Sqr q) {n : Nat} (hn : n ≤ 10) (h6 : hI h q 6 = nI n) {r : Nat → Int32} (h1 : hI h q 1 = r 2) (hl : Lw (r 2)) {i : Nat} (hi : i < n) (K : Post (some (.int (nI (w_ord r n i)))) h) : Sp g mX2_throwerAt [.ref q, .int (nI i)] h Post := by
  show Go g mX2_throwerAt 0 [_, _, _] [] _ _ _
  refine ok_aload_n dX2_throwerAt_0 rfl rfl ?_
  refine ok_getI dX2_throwerAt_1 f_X2_31 (by first | exact is_lit hv (by decide) rfl | exact is_sq hv hq | exact is_row hv hq | exact is_pn hv hq (by assumption) | assumption) rfl ?_
  rw [h6]
  refine ok_iconst (v := 2) dX2_throwerAt_4 (by decide) ?_
  refine ok_idiv dX2_throwerAt_5 (by decide) ?_
  rw [nI_2, pk_div (by omega) (by omega) (by omega)]
  refine ok_istore_n (lo' := [_, _, _]) dX2_throwerAt_6 rfl (Nat.le_of_ble_eq_true rfl) rfl rfl ?_
  refine ok_aload_n dX2_throwerAt_7 rfl rfl ?_
  refine ok_getI dX2_throwerAt_8 f_X2_15 (by first | exact is_lit hv (by decide) rfl | exact is_sq hv hq | exact is_row hv hq | exact is_pn hv hq (by assumption) | assumption) rfl ?_
  rw [h1]
  unfold w_ord at K
  rcases hl with el | el | el
  · rw [el]
    refine ok_lookup (tgt := 64) (off := 53) dX2_throwerAt_11 (by decide) (by decide) (by decide) ?_
    refine ok_iload_n dX2_throwerAt_64 rfl rfl ?_
    refine ok_ireturn dX2_throwerAt_65 rfl rfl ?_
    simp only [el, n01, n02, ↓reduceIte] at K
    exact K
  · rw [el]
    refine ok_lookup (tgt := 36) (off := 25) dX2_throwerAt_11 (by decide) (by decide) (by decide) ?_
    refine ok_aload_n dX2_throwerAt_36 rfl rfl ?_
    refine ok_getI dX2_throwerAt_37 f_X2_31 (by first | exact is_lit hv (by decide) rfl | exact is_sq hv hq | exact is_row hv hq | exact is_pn hv hq (by assumption) | assumption) rfl ?_
    rw [h6]
    refine ok_iconst (v := 1) dX2_throwerAt_40 (by decide) ?_
    refine ok_isub dX2_throwerAt_41 ?_
    refine ok_iload_n dX2_throwerAt_42 rfl rfl ?_
    refine ok_isub dX2_throwerAt_43 ?_
    refine ok_ireturn dX2_throwerAt_44 rfl rfl ?_
    simp only [el, ↓reduceIte] at K
    rw [nI_c1, pk_sub (by omega), pk_sub (by omega)]
    exact K
  · rw [el]
    refine ok_lookup (tgt := 45) (off := 34) dX2_throwerAt_11 (by decide) (by decide) (by decide) ?_
    refine ok_iload_n dX2_throwerAt_45 rfl rfl ?_
    refine ok_iload_n dX2_throwerAt_46 rfl rfl ?_
    refine ok_icmp_ge (tgt := 58) dX2_throwerAt_47 (by decide) (fun c_47 => ?_) (fun c_47 => ?_)
    · refine ok_iconst (v := 2) dX2_throwerAt_58 (by decide) ?_
      refine ok_iload_n dX2_throwerAt_59 rfl rfl ?_
      refine ok_iload_n dX2_throwerAt_60 rfl rfl ?_
      refine ok_isub dX2_throwerAt_61 ?_
      refine ok_imul dX2_throwerAt_62 ?_
      refine ok_ireturn dX2_throwerAt_63 rfl rfl ?_
      simp only [el, n21, ↓reduceIte] at K
      have hc : (nI (n / 2) ≤ nI i) ↔ n / 2 ≤ i := nI_leI (by omega) (by omega)
      by_cases hx : i < n / 2
      · first | (exact absurd (hc.mp c_47) (by omega)) | (rw [if_pos hx] at K; rw [nI_2, pk_mul, nI_1]; exact K)
      · first | (exact absurd (hc.mpr (by omega)) c_47) | (rw [if_neg hx] at K; rw [nI_2, pk_sub (by omega), pk_mul]; exact K)
    · refine ok_iconst (v := 2) dX2_throwerAt_50 (by decide) ?_
      refine ok_iload_n dX2_throwerAt_51 rfl rfl ?_
      refine ok_imul dX2_throwerAt_52 ?_
      refine ok_iconst (v := 1) dX2_throwerAt_53 (by decide) ?_
      refine ok_iadd dX2_throwerAt_54 ?_
      refine ok_goto (tgt := 63) dX2_throwerAt_55 (by decide) ?_
      refine ok_ireturn dX2_throwerAt_63 rfl rfl ?_
      simp only [el, n21, ↓reduceIte] at K
      have hc : (nI (n / 2) ≤ nI i) ↔ n / 2 ≤ i := nI_leI (by omega) (by omega)
      by_cases hx : i < n / 2
      · first | (exact absurd (hc.mp c_47) (by omega)) | (rw [if_pos hx] at K; rw [nI_2, pk_mul, nI_1]; exact K)
      · first | (exact absurd (hc.mpr (by omega)) c_47) | (rw [if_neg hx] at K; rw [nI_2, pk_sub (by omega), pk_mul]; exact K)
theorem sp_X2_throwIn {g : GG} {h : Hp} {Post : Option Value → Hp → Prop} (hv : Inv h) {q : Nat} (hq : Sqr q) {p : Nat} (hp : Is h p 0 0) (hpq : q ≠ p) (a : Int32) (K : Post none (uI (uI (uI h p 4 a) p 1 (cut (hI h p 1 - a) 999)) q 0 (cut (hI h q 0 + a) 999))) : Sp g mX2_throwIn [.ref q, .ref p, .int a] h Post := by
  show Go g mX2_throwIn 0 [_, _, _] [] _ _ _
  refine ok_aload_n dX2_throwIn_0 rfl rfl ?_
  refine ok_iload_n dX2_throwIn_1 rfl rfl ?_
  refine ok_putI dX2_throwIn_2 f_X2_95 (by first | exact is_lit hv (by decide) rfl | exact is_sq hv hq | exact is_row hv hq | exact is_pn hv hq (by assumption) | assumption) rfl rfl rfl rfl ?_
  refine ok_aload_n dX2_throwIn_5 rfl rfl ?_
  refine ok_sipush (v := 999) dX2_throwIn_6 (by decide) ?_
  refine ok_aload_n dX2_throwIn_9 rfl rfl ?_
  refine ok_getI dX2_throwIn_10 f_X2_75 (by first | exact is_lit hv (by decide) rfl | exact is_sq hv hq | exact is_row hv hq | exact is_pn hv hq (by assumption) | assumption) rfl ?_
  refine ok_iload_n dX2_throwIn_13 rfl rfl ?_
  refine ok_isub dX2_throwIn_14 ?_
  refine ok_min dX2_throwIn_15 w_292 w_293 w_71 w_294 (Nat.le_of_ble_eq_true rfl) (Nat.le_of_ble_eq_true rfl) ?_
  refine ok_putI dX2_throwIn_18 f_X2_75 (by first | exact is_lit hv (by decide) rfl | exact is_sq hv hq | exact is_row hv hq | exact is_pn hv hq (by assumption) | assumption) rfl rfl rfl rfl ?_
  refine ok_aload_n dX2_throwIn_21 rfl rfl ?_
  refine ok_sipush (v := 999) dX2_throwIn_22 (by decide) ?_
  refine ok_aload_n dX2_throwIn_25 rfl rfl ?_
  refine ok_getI dX2_throwIn_26 f_X2_9 (by first | exact is_lit hv (by decide) rfl | exact is_sq hv hq | exact is_row hv hq | exact is_pn hv hq (by assumption) | assumption) rfl ?_
  refine ok_iload_n dX2_throwIn_29 rfl rfl ?_
  refine ok_iadd dX2_throwIn_30 ?_
  refine ok_min dX2_throwIn_31 w_292 w_293 w_71 w_294 (Nat.le_of_ble_eq_true rfl) (Nat.le_of_ble_eq_true rfl) ?_
  refine ok_putI dX2_throwIn_34 f_X2_9 (by first | exact is_lit hv (by decide) rfl | exact is_sq hv hq | exact is_row hv hq | exact is_pn hv hq (by assumption) | assumption) rfl rfl rfl rfl ?_
  refine ok_return dX2_throwIn_37 rfl ?_
  have e1 : hI (uI h p 4 a) p 1 = hI h p 1 := if_neg (by omega)
  have e2 : ∀ x, hI (uI (uI h p 4 a) p 1 x) q 0 = hI h q 0 := fun x => (if_neg (by omega)).trans (if_neg (by omega))
  rw [e1, e2]
  exact K
theorem rep_throw {h : Hp} {q n : Nat} {r : Nat → Int32} {who c : Int32} {i : Nat} (hv : Inv h) (hq : Sqr q) (hi : i < n) (R : Rep h q n (w_mid r n who c i)) {A : Int32} (hA : A = w_amt r n who c i (w_cs r n who c i)) :
    Rep (uI (uI (uI h (pn h q (w_ord r n i)) 4 A) (pn h q (w_ord r n i)) 1 (cut (hI h (pn h q (w_ord r n i)) 1 - A) 999)) q 0 (cut (hI h q 0 + A) 999)) q n (w_mid r n who c (i + 1)) := by
  obtain ⟨h1, h2, h3, h4, h5⟩ := R
  have ho : w_ord r n i < n := ord_lt hi
  have hin := pn_in hv hq (j := w_ord r n i) (by omega)
  have e0 : hI h q 0 = w_cs r n who c i := by rw [h4 0 (by decide)]; exact mk_s (by decide)
  have e1 : hI h (pn h q (w_ord r n i)) 1 = ro r (w_ord r n i) 1 := by
    have := h5 _ 1 ho (by decide)
    unfold pf at this
    rw [this, w_mid, ro_mk (by decide), vis_new hi]
    rfl
  rw [e0, e1]
  refine ⟨h1, ?_, ?_, fun k hk => ?_, fun p f hp hf => ?_⟩
  · rw [← h2, w_mid, w_mid, mk_s (by decide), mk_s (by decide)]; rfl
  · show (if q = q ∧ 6 = 0 then _ else if q = _ ∧ 6 = 1 then _ else if q = _ ∧ 6 = 4 then _ else h.1 q 6) = _
    rw [if_neg (by omega), if_neg (by omega), if_neg (by omega)]
    exact h3
  · show (if q = q ∧ k = 0 then _ else if q = _ ∧ k = 1 then _ else if q = _ ∧ k = 4 then _ else h.1 q k) = _
    rw [w_mid, mk_s (by omega)]
    by_cases hk0 : k = 0
    · subst hk0
      rw [if_pos ⟨rfl, rfl⟩, if_pos rfl, hA]
      rfl
    · rw [if_neg (fun e => hk0 e.2), if_neg (by omega), if_neg (by omega), if_neg (by omega)]
      have := h4 k hk
      rw [w_mid, mk_s (by omega), if_neg (by omega)] at this
      exact this
  · have hpin := pn_in hv hq (j := p) (by omega)
    show (if pn h q p = q ∧ f = 0 then _ else if pn h q p = _ ∧ f = 1 then _ else if pn h q p = _ ∧ f = 4 then _ else h.1 (pn h q p) f) = _
    rw [if_neg (by omega), w_mid, ro_mk hf]
    have old : h.1 (pn h q p) f = _ := h5 p f hp hf
    rw [w_mid, ro_mk hf] at old
    by_cases hpo : p = w_ord r n i
    · subst hpo
      rw [vis_new hi] at old
      simp only [w_vis, beq_self_eq_true, Bool.true_or, if_true, w_th, true_and]
      by_cases hf1 : f = 1
      · subst hf1
        rw [if_pos rfl, if_neg (by decide), if_pos rfl, ← hA]
      · rw [if_neg hf1]
        by_cases hf4 : f = 4
        · rw [if_pos hf4, if_pos hf4, ← hA]
        · rw [if_neg hf4, if_neg hf4, if_neg hf1]
          simpa using old
    · have hx : pn h q p ≠ pn h q (w_ord r n i) := fun e => hpo (pn_inj hv hq (by omega) (by omega) e)
      rw [if_neg (fun e => hx e.1), if_neg (fun e => hx e.1), old]
      have hb : (p == w_ord r n i) = false := by simpa using hpo
      simp only [w_vis, hb, Bool.false_or, w_th, if_neg hpo]
theorem rep_mid0 {h : Hp} {q n : Nat} {r : Nat → Int32} {who c : Int32} (R : Rep h q n r) : Rep h q n (w_mid r n who c 0) := by
  obtain ⟨h1, h2, h3, h4, h5⟩ := R
  refine ⟨h1, by rw [w_mid, mk_s (by decide)]; exact h2, h3, fun k hk => ?_, fun p f hp hf => ?_⟩
  · rw [w_mid, mk_s (by omega), h4 k hk]
    by_cases hk0 : k = 0
    · subst hk0; rfl
    · rw [if_neg (by omega)]
  · rw [w_mid, ro_mk hf]
    exact h5 p f hp hf
theorem mid_wr {h : Hp} {q n : Nat} {r : Nat → Int32} {who c : Int32} {i : Nat} (hi : i < n) (R : Rep h q n (w_mid r n who c i)) : WR h q (w_ord r n i) r (w_cs r n who c i) := by
  obtain ⟨h1, h2, h3, h4, h5⟩ := R
  refine ⟨by rw [h4 0 (by decide)]; exact mk_s (by decide), by rw [h4 2 (by decide)]; exact mk_s (by decide), by rw [h4 3 (by decide)]; exact mk_s (by decide), ?_, fun f hf => ?_⟩
  · rw [h3, ← h2, w_mid, mk_s (by decide)]; rfl
  · rw [h5 _ f (ord_lt hi) (by omega), w_mid, ro_mk (by omega), vis_new hi]
    rfl
theorem rep_fp {h : Hp} {q n : Nat} {r : Nat → Int32} {i f : Nat} {v : Int32} (hv : Inv h) (hq : Sqr q) (hi : i < n) (hf : f = 5 ∨ f = 6) (R : Rep h q n (w_fp r i)) (hw : (if f = 5 then nI i < r 6 else ¬ nI i < r 6)) (hvv : v = cut (ro r i f + 1) 999999) :
    Rep (uI h (pn h q i) f v) q n (w_fp r (i + 1)) := by
  obtain ⟨h1, h2, h3, h4, h5⟩ := R
  have hin := pn_in hv hq (j := i) (by omega)
  refine ⟨h1, by rw [← h2, w_fp, w_fp, mk_s (by decide), mk_s (by decide)], ?_, fun k hk => ?_, fun p f2 hp hf2 => ?_⟩
  · show (if q = pn h q i ∧ 6 = f then _ else h.1 q 6) = _
    rw [if_neg (by omega)]
    exact h3
  · show (if q = pn h q i ∧ k = f then _ else h.1 q k) = _
    rw [if_neg (by omega)]
    have := h4 k hk
    rw [w_fp, mk_s (by omega)] at this ⊢
    exact this
  · show (if pn h q p = pn h q i ∧ f2 = f then v else h.1 (pn h q p) f2) = _
    have old : h.1 (pn h q p) f2 = _ := h5 p f2 hp hf2
    rw [w_fp, ro_mk hf2] at old ⊢
    by_cases hpi : p = i
    · subst hpi
      rw [if_neg (by omega)] at old
      rw [if_pos (show p < p + 1 by omega)]
      by_cases hff : f2 = f
      · subst hff
        rw [if_pos ⟨rfl, rfl⟩, hvv]
        rcases hf with rfl | rfl
        · rw [if_pos rfl] at hw ⊢; rw [if_pos hw]
        · rw [if_neg (by decide)] at hw ⊢; rw [if_pos rfl, if_neg hw]
      · rw [if_neg (fun e => hff e.2)]
        rcases hf with rfl | rfl
        · rw [if_pos rfl] at hw
          rw [if_neg hff]
          by_cases h6 : f2 = 6
          · rw [if_pos h6, if_pos hw, ← h6]; exact old
          · rw [if_neg h6]; exact old
        · rw [if_neg (by decide)] at hw
          by_cases h5' : f2 = 5
          · rw [if_pos h5', if_neg hw, ← h5']; exact old
          · rw [if_neg h5', if_neg hff]; exact old
    · have hx : pn h q p ≠ pn h q i := fun e => hpi (pn_inj hv hq (by omega) (by omega) e)
      rw [if_neg (fun e => hx e.1), old]
      by_cases hlt : p < i
      · rw [if_pos hlt, if_pos (show p < i + 1 by omega)]
      · rw [if_neg hlt, if_neg (show ¬ p < i + 1 by omega)]
theorem rep_fp0 {h : Hp} {q n : Nat} {r : Nat → Int32} (R : Rep h q n r) : Rep h q n (w_fp r 0) := by
  obtain ⟨h1, h2, h3, h4, h5⟩ := R
  refine ⟨h1, by rw [w_fp, mk_s (by decide)]; exact h2, h3, fun k hk => by rw [w_fp, mk_s (by omega)]; exact h4 k hk, fun p f hp hf => by rw [w_fp, ro_mk hf]; exact h5 p f hp hf⟩
theorem lp_X2_fillPails_4 {g : GG} {Post : Option Value → Hp → Prop} {q : Nat} (hq : Sqr q) {n : Nat} {r : Nat → Int32} {h0 : Hp} (hv0 : Inv h0) (K : ∀ h', FrI q h0 h' → Rep h' q n (w_fp r n) → Post (some (.int (w_fill (r 6) n))) h') : ∀ (k i : Nat) (h1 : Hp) (x3 : Option Value), i + k = n → FrI q h0 h1 → Rep h1 q n (w_fp r i) → Go g mX2_fillPails 4 [some (.ref q), some (.int (w_fill (r 6) i)), some (.int (nI i)), x3] [] h1 (0, 0) Post := by
  intro k
  induction k with
  | zero =>
    intro i h1 x3 hik F R
    obtain rfl : i = n := by omega
    have hv : Inv h1 := hv0.of F.1
    have h6 := R.2.2.1
    have hn := R.1
    refine ok_iload_n dX2_fillPails_4 rfl rfl ?_
    refine ok_aload_n dX2_fillPails_5 rfl rfl ?_
    refine ok_getI dX2_fillPails_6 f_X2_31 (by first | exact is_lit hv (by decide) rfl | exact is_sq hv hq | exact is_row hv hq | exact is_pn hv hq (by assumption) | assumption) rfl ?_
    rw [h6]
    refine ok_icmp_ge (tgt := 69) dX2_fillPails_9 (by decide) (fun _ => ?_) (fun c9 => absurd (nI_le (Nat.le_refl _) (by omega)) c9)
    refine ok_iload_n dX2_fillPails_69 rfl rfl ?_
    refine ok_ireturn dX2_fillPails_70 rfl rfl ?_
    exact K h1 F R
  | succ k ih =>
    intro i h1 x3 hik F R
    have hi : i < n := by omega
    have hv : Inv h1 := hv0.of F.1
    have h6 := R.2.2.1
    have hn := R.1
    have hi10 : i < 10 := by omega
    have hin := pn_in hv hq hi10
    have e5 : hI h1 q 5 = r 6 := by rw [R.2.2.2.1 5 (by decide), w_fp, mk_s (by decide)]
    have ef : ∀ f, f < 7 → hI h1 (pn h1 q i) f = ro r i f := fun f hf => by
      have := R.2.2.2.2 i f hi hf
      unfold pf at this
      rw [this, w_fp, ro_mk hf, if_neg (by omega)]
    refine ok_iload_n dX2_fillPails_4 rfl rfl ?_
    refine ok_aload_n dX2_fillPails_5 rfl rfl ?_
    refine ok_getI dX2_fillPails_6 f_X2_31 (by first | exact is_lit hv (by decide) rfl | exact is_sq hv hq | exact is_row hv hq | exact is_pn hv hq (by assumption) | assumption) rfl ?_
    rw [h6]
    refine ok_icmp_ge (tgt := 69) dX2_fillPails_9 (by decide) (fun c9 => absurd c9 (nI_ge hi (by omega))) (fun _ => ?_)
    refine ok_aload_n dX2_fillPails_12 rfl rfl ?_
    refine ok_getR dX2_fillPails_13 f_X2_36 (by first | exact is_lit hv (by decide) rfl | exact is_sq hv hq | exact is_row hv hq | exact is_pn hv hq (by assumption) | assumption) rfl (by first | exact rf hv rfl | exact rf_row hv hq | assumption) ?_
    refine ok_iload_n dX2_fillPails_16 rfl rfl ?_
    refine ok_aaloadP dX2_fillPails_17 (by first | exact is_lit hv (by decide) rfl | exact is_sq hv hq | exact is_row hv hq | exact is_pn hv hq (by assumption) | assumption) (by first | decide | exact vp_in_nI (by assumption) (by decide) | exact vp_in_nI (by omega) (by decide) | assumption) (by first | exact rf_nI hv hq (by assumption) | assumption) ?_
    refine ok_astore_n (lo' := [_, _, _, _]) dX2_fillPails_18 rfl (Nat.le_of_ble_eq_true rfl) rfl rfl ?_
    refine ok_iload_n dX2_fillPails_19 rfl rfl ?_
    refine ok_aload_n dX2_fillPails_20 rfl rfl ?_
    refine ok_getI dX2_fillPails_21 f_X2_28 (by first | exact is_lit hv (by decide) rfl | exact is_sq hv hq | exact is_row hv hq | exact is_pn hv hq (by assumption) | assumption) rfl ?_
    rw [e5]
    refine ok_icmp_ge (tgt := 48) dX2_fillPails_24 (by decide) (fun c_24 => ?_) (fun c_24 => ?_)
    · refine ok_aload_n dX2_fillPails_48 rfl rfl ?_
      refine ok_ldc dX2_fillPails_49 w_380 ?_
      refine ok_aload_n dX2_fillPails_51 rfl rfl ?_
      refine ok_getI dX2_fillPails_52 f_X2_102 (by first | exact is_lit hv (by decide) rfl | exact is_sq hv hq | exact is_row hv hq | exact is_pn hv hq (by assumption) | assumption) rfl ?_
      refine ok_iconst (v := 1) dX2_fillPails_55 (by decide) ?_
      refine ok_iadd dX2_fillPails_56 ?_
      refine ok_min dX2_fillPails_57 w_292 w_293 w_71 w_294 (Nat.le_of_ble_eq_true rfl) (Nat.le_of_ble_eq_true rfl) ?_
      refine ok_putI dX2_fillPails_60 f_X2_102 (by first | exact is_lit hv (by decide) rfl | exact is_sq hv hq | exact is_row hv hq | exact is_pn hv hq (by assumption) | assumption) rfl rfl rfl rfl ?_
      refine ok_iinc (v := _ + 1) (lo' := [_, _, _, _]) dX2_fillPails_63 rfl rfl (Nat.le_of_ble_eq_true rfl) rfl rfl ?_
      refine ok_goto (tgt := 4) dX2_fillPails_66 (by decide) ?_
      have hw : (nI i < r 6) ↔ ¬ (r 6 ≤ nI i) := by rw [i_lt, i_le]; omega
      rw [nI_1]
      first
        | (rw [ef 5 (by decide)]; have e := ih (i + 1) _ (some (.ref (pn h1 q i))) (by omega) (F.u (a := pn h1 q i) (k := 5) (v := cut (ro r i 5 + 1) 999999) (by omega) (by omega)) (rep_fp (f := 5) hv hq hi (Or.inl rfl) R (by rw [if_pos rfl]; exact hw.mpr c_24) rfl); rw [w_fill, if_pos (hw.mpr c_24)] at e; exact e)
        | (rw [ef 6 (by decide)]; have e := ih (i + 1) _ (some (.ref (pn h1 q i))) (by omega) (F.u (a := pn h1 q i) (k := 6) (v := cut (ro r i 6 + 1) 999999) (by omega) (by omega)) (rep_fp (f := 6) hv hq hi (Or.inr rfl) R (by rw [if_neg (by decide)]; exact fun z => hw.mp z c_24) rfl); rw [w_fill, if_neg (fun z => hw.mp z c_24), Int32.add_zero] at e; exact e)
    · refine ok_aload_n dX2_fillPails_27 rfl rfl ?_
      refine ok_ldc dX2_fillPails_28 w_380 ?_
      refine ok_aload_n dX2_fillPails_30 rfl rfl ?_
      refine ok_getI dX2_fillPails_31 f_X2_99 (by first | exact is_lit hv (by decide) rfl | exact is_sq hv hq | exact is_row hv hq | exact is_pn hv hq (by assumption) | assumption) rfl ?_
      refine ok_iconst (v := 1) dX2_fillPails_34 (by decide) ?_
      refine ok_iadd dX2_fillPails_35 ?_
      refine ok_min dX2_fillPails_36 w_292 w_293 w_71 w_294 (Nat.le_of_ble_eq_true rfl) (Nat.le_of_ble_eq_true rfl) ?_
      refine ok_putI dX2_fillPails_39 f_X2_99 (by first | exact is_lit hv (by decide) rfl | exact is_sq hv hq | exact is_row hv hq | exact is_pn hv hq (by assumption) | assumption) rfl rfl rfl rfl ?_
      refine ok_iinc (v := _ + 1) (lo' := [_, _, _, _]) dX2_fillPails_42 rfl rfl (Nat.le_of_ble_eq_true rfl) rfl rfl ?_
      refine ok_goto (tgt := 63) dX2_fillPails_45 (by decide) ?_
      refine ok_iinc (v := _ + 1) (lo' := [_, _, _, _]) dX2_fillPails_63 rfl rfl (Nat.le_of_ble_eq_true rfl) rfl rfl ?_
      refine ok_goto (tgt := 4) dX2_fillPails_66 (by decide) ?_
      have hw : (nI i < r 6) ↔ ¬ (r 6 ≤ nI i) := by rw [i_lt, i_le]; omega
      rw [nI_1]
      first
        | (rw [ef 5 (by decide)]; have e := ih (i + 1) _ (some (.ref (pn h1 q i))) (by omega) (F.u (a := pn h1 q i) (k := 5) (v := cut (ro r i 5 + 1) 999999) (by omega) (by omega)) (rep_fp (f := 5) hv hq hi (Or.inl rfl) R (by rw [if_pos rfl]; exact hw.mpr c_24) rfl); rw [w_fill, if_pos (hw.mpr c_24)] at e; exact e)
        | (rw [ef 6 (by decide)]; have e := ih (i + 1) _ (some (.ref (pn h1 q i))) (by omega) (F.u (a := pn h1 q i) (k := 6) (v := cut (ro r i 6 + 1) 999999) (by omega) (by omega)) (rep_fp (f := 6) hv hq hi (Or.inr rfl) R (by rw [if_neg (by decide)]; exact fun z => hw.mp z c_24) rfl); rw [w_fill, if_neg (fun z => hw.mp z c_24), Int32.add_zero] at e; exact e)
theorem sp_X2_fillPails {g : GG} {h : Hp} {Post : Option Value → Hp → Prop} (hv : Inv h) {q : Nat} (hq : Sqr q) {n : Nat} {r : Nat → Int32} (R : Rep h q n r) (K : ∀ h', FrI q h h' → Rep h' q n (w_fp r n) → Post (some (.int (w_fill (r 6) n))) h') : Sp g mX2_fillPails [.ref q] h Post := by
  show Go g mX2_fillPails 0 [_, _, _, _] [] _ _ _
  refine ok_iconst (v := 0) dX2_fillPails_0 (by decide) ?_
  refine ok_istore_n (lo' := [_, _, _, _]) dX2_fillPails_1 rfl (Nat.le_of_ble_eq_true rfl) rfl rfl ?_
  refine ok_iconst (v := 0) dX2_fillPails_2 (by decide) ?_
  refine ok_istore_n (lo' := [_, _, _, _]) dX2_fillPails_3 rfl (Nat.le_of_ble_eq_true rfl) rfl rfl ?_
  exact lp_X2_fillPails_4 hq hv K n 0 h _ (by omega) FrI.rf (rep_fp0 R)
theorem rep_hour {h : Hp} {q n : Nat} {r : Nat → Int32} {who c : Int32} {h2 : Hp} (R : Rep h q n (w_mid r n who c n)) (hh : h2 = uI (uI (uI h q 5 (hI h q 0)) q 0 0) q 4 (hI h q 4 + 1)) (hv : Inv h) (hq : Sqr q) : Rep h2 q n (mkr (fun k => if k = 1 then 0 else if k = 5 then r 5 + 1 else if k = 6 then w_will r n who c else r k) (fun p f => ro (w_mid r n who c n) p f)) := by
  subst hh
  obtain ⟨h1, h2, h3, h4, h5⟩ := R
  have e0 : h.1 q 0 = w_cs r n who c n := by have := h4 0 (by decide); rw [w_mid, mk_s (by decide)] at this; exact this
  have e4 : h.1 q 4 = r 5 := by have := h4 4 (by decide); rw [w_mid, mk_s (by decide)] at this; exact this
  refine ⟨h1, by rw [mk_s (by decide)]; rw [w_mid, mk_s (by decide)] at h2; exact h2, ?_, fun k hk => ?_, fun p f hp hf => ?_⟩
  · show (if q = q ∧ 6 = 4 then _ else if q = q ∧ 6 = 0 then _ else if q = q ∧ 6 = 5 then _ else h.1 q 6) = _
    rw [if_neg (by omega), if_neg (by omega), if_neg (by omega)]
    exact h3
  · show (if q = q ∧ k = 4 then h.1 q 4 + 1 else if q = q ∧ k = 0 then 0 else if q = q ∧ k = 5 then h.1 q 0 else h.1 q k) = _
    rw [mk_s (by omega), e0, e4]
    have old : h.1 q k = _ := h4 k hk
    rw [w_mid, mk_s (by omega)] at old
    rcases (show k = 0 ∨ k = 1 ∨ k = 2 ∨ k = 3 ∨ k = 4 ∨ k = 5 by omega) with rfl | rfl | rfl | rfl | rfl | rfl <;> first | rfl | (simpa [w_will] using old) | simp [w_will]
  · have hin := pn_in hv hq (j := p) (by omega)
    show (if pn h q p = q ∧ f = 4 then _ else if pn h q p = q ∧ f = 0 then _ else if pn h q p = q ∧ f = 5 then _ else h.1 (pn h q p) f) = _
    rw [if_neg (by omega), if_neg (by omega), if_neg (by omega), ro_mk hf]
    exact h5 p f hp hf
theorem rep_hourE {h : Hp} {q n : Nat} {r : Nat → Int32} {who c : Int32} (R : Rep h q n (w_fp (mkr (fun k => if k = 1 then 0 else if k = 5 then r 5 + 1 else if k = 6 then w_will r n who c else r k) (fun p f => ro (w_mid r n who c n) p f)) n)) : Rep h q n (w_hour r n who c) := by
  obtain ⟨h1, h2, h3, h4, h5⟩ := R
  refine ⟨h1, ?_, h3, fun k hk => ?_, fun p f hp hf => ?_⟩
  · rw [w_fp, mk_s (by decide), mk_s (by decide)] at h2
    rw [w_hour, mk_s (by decide)]
    exact h2
  · have := h4 k hk
    rw [w_fp, mk_s (by omega), mk_s (by omega)] at this
    rw [w_hour, mk_s (by omega)]
    exact this
  · have := h5 p f hp hf
    rw [this, w_fp, ro_mk hf, if_pos hp, w_hour, ro_mk hf]
    simp only [ro_mk (show (5 : Nat) < 7 by decide), ro_mk (show (6 : Nat) < 7 by decide), ro_mk hf, mk_s (show (6 : Nat) < 7 by decide), w_mid, vis_all hp, if_true]
    rcases (show f = 0 ∨ f = 1 ∨ f = 2 ∨ f = 3 ∨ f = 4 ∨ f = 5 ∨ f = 6 by omega) with rfl | rfl | rfl | rfl | rfl | rfl | rfl <;> simp [w_thr]
theorem lp_X2_passHour_2 {g : GG} {Post : Option Value → Hp → Prop} {q : Nat} (hq : Sqr q) {n : Nat} {r : Nat → Int32} {who c : Int32} {h0 : Hp} (hv0 : Inv h0) (hkd : ∀ p, p < n → Kd (ro r p 0)) (hl : Lw (r 2)) (K : ∀ h', FrI q h0 h' → Rep h' q n (w_hour r n who c) → Post (some (.int (w_fill (w_will r n who c) n))) h') : ∀ (k i : Nat) (h1 : Hp) (x4 : Option Value), i + k = n → FrI q h0 h1 → Rep h1 q n (w_mid r n who c i) → Go g mX2_passHour 2 [some (.ref q), some (.int who), some (.int c), some (.int (nI i)), x4] [] h1 (0, 0) Post := by
  intro k
  induction k with
  | zero =>
    intro i h1 x4 hik F R
    obtain rfl : i = n := by omega
    have hv : Inv h1 := hv0.of F.1
    have h6 := R.2.2.1
    have hn := R.1
    have hr1 := rep_hour R rfl hv hq
    refine ok_iload_n dX2_passHour_2 rfl rfl ?_
    refine ok_aload_n dX2_passHour_3 rfl rfl ?_
    refine ok_getI dX2_passHour_4 f_X2_31 (by first | exact is_lit hv (by decide) rfl | exact is_sq hv hq | exact is_row hv hq | exact is_pn hv hq (by assumption) | assumption) rfl ?_
    rw [h6]
    refine ok_icmp_ge (tgt := 50) dX2_passHour_7 (by decide) (fun _ => ?_) (fun c9 => absurd (nI_le (Nat.le_refl _) (by omega)) c9)
    refine ok_aload_n dX2_passHour_50 rfl rfl ?_
    refine ok_aload_n dX2_passHour_51 rfl rfl ?_
    refine ok_getI dX2_passHour_52 f_X2_9 (by first | exact is_lit hv (by decide) rfl | exact is_sq hv hq | exact is_row hv hq | exact is_pn hv hq (by assumption) | assumption) rfl ?_
    refine ok_putI dX2_passHour_55 f_X2_28 (by first | exact is_lit hv (by decide) rfl | exact is_sq hv hq | exact is_row hv hq | exact is_pn hv hq (by assumption) | assumption) rfl rfl rfl rfl ?_
    refine ok_aload_n dX2_passHour_58 rfl rfl ?_
    refine ok_iconst (v := 0) dX2_passHour_59 (by decide) ?_
    refine ok_putI dX2_passHour_60 f_X2_9 (by first | exact is_lit hv (by decide) rfl | exact is_sq hv hq | exact is_row hv hq | exact is_pn hv hq (by assumption) | assumption) rfl rfl rfl rfl ?_
    refine ok_aload_n dX2_passHour_63 rfl rfl ?_
    refine ok_dup dX2_passHour_64 rfl ?_
    refine ok_getI dX2_passHour_65 f_X2_25 (by first | exact is_lit hv (by decide) rfl | exact is_sq hv hq | exact is_row hv hq | exact is_pn hv hq (by assumption) | assumption) rfl ?_
    refine ok_iconst (v := 1) dX2_passHour_68 (by decide) ?_
    refine ok_iadd dX2_passHour_69 ?_
    refine ok_putI dX2_passHour_70 f_X2_25 (by first | exact is_lit hv (by decide) rfl | exact is_sq hv hq | exact is_row hv hq | exact is_pn hv hq (by assumption) | assumption) rfl rfl rfl rfl ?_
    refine ok_aload_n dX2_passHour_73 rfl rfl ?_
    refine ok_callV (M' := mX2_fillPails) (b' := (0, 0)) (As := []) (cx := 2) dX2_passHour_74 iX2_fillPails w_376 (by decide) rfl (by first | exact is_lit hv (by decide) rfl | exact is_sq hv hq | exact is_row hv hq | exact is_pn hv hq (by assumption) | assumption) rfl (Nat.le_of_ble_eq_true rfl) ⟨Nat.le_of_ble_eq_true rfl, Nat.le_of_ble_eq_true rfl⟩ (Nat.le_of_ble_eq_true rfl) rfl rfl ?_
    have e4 : hI (uI (uI h1 q 5 (hI h1 q 0)) q 0 0) q 4 = hI h1 q 4 := (if_neg (by omega)).trans (if_neg (by omega))
    rw [e4]
    refine sp_X2_fillPails (h := uI (uI (uI h1 q 5 (hI h1 q 0)) q 0 0) q 4 (hI h1 q 4 + 1)) hv hq hr1 (fun h2 F2 R2 => ?_)
    rw [mk_s (by decide)]
    refine ok_ireturn dX2_passHour_77 rfl rfl ?_
    exact K h2 (((FrI.u (FrI.u (FrI.u F (by omega) (by omega)) (by omega) (by omega)) (by omega) (by omega))).tr F2) (rep_hourE R2)
  | succ k ih =>
    intro i h1 x4 hik F R
    have hi : i < n := by omega
    have hv : Inv h1 := hv0.of F.1
    have h6 := R.2.2.1
    have hn := R.1
    have ho := ord_lt (r := r) hi
    have hin := pn_in hv hq (j := w_ord r n i) (by omega)
    have e1 : hI h1 q 1 = r 2 := by rw [R.2.2.2.1 1 (by decide), w_mid, mk_s (by decide)]; rfl
    have ho10 : w_ord r n i < 10 := by omega
    refine ok_iload_n dX2_passHour_2 rfl rfl ?_
    refine ok_aload_n dX2_passHour_3 rfl rfl ?_
    refine ok_getI dX2_passHour_4 f_X2_31 (by first | exact is_lit hv (by decide) rfl | exact is_sq hv hq | exact is_row hv hq | exact is_pn hv hq (by assumption) | assumption) rfl ?_
    rw [h6]
    refine ok_icmp_ge (tgt := 50) dX2_passHour_7 (by decide) (fun c9 => absurd c9 (nI_ge hi (by omega))) (fun _ => ?_)
    refine ok_aload_n dX2_passHour_10 rfl rfl ?_
    refine ok_iload_n dX2_passHour_11 rfl rfl ?_
    refine ok_callV (M' := mX2_throwerAt) (b' := (0, 0)) (As := [_]) (cx := 2) dX2_passHour_12 iX2_throwerAt w_367 (by decide) rfl (by first | exact is_lit hv (by decide) rfl | exact is_sq hv hq | exact is_row hv hq | exact is_pn hv hq (by assumption) | assumption) rfl (Nat.le_of_ble_eq_true rfl) ⟨Nat.le_of_ble_eq_true rfl, Nat.le_of_ble_eq_true rfl⟩ (Nat.le_of_ble_eq_true rfl) rfl rfl ?_
    refine sp_X2_throwerAt hv hq hn h6 e1 hl hi ?_
    refine ok_istore (lo' := [_, _, _, _, _]) dX2_passHour_15 (Nat.le_of_ble_eq_true rfl) rfl rfl ?_
    refine ok_aload_n dX2_passHour_17 rfl rfl ?_
    refine ok_aload_n dX2_passHour_18 rfl rfl ?_
    refine ok_getR dX2_passHour_19 f_X2_36 (by first | exact is_lit hv (by decide) rfl | exact is_sq hv hq | exact is_row hv hq | exact is_pn hv hq (by assumption) | assumption) rfl (by first | exact rf hv rfl | exact rf_row hv hq | assumption) ?_
    refine ok_iload dX2_passHour_22 rfl ?_
    refine ok_aaloadP dX2_passHour_24 (by first | exact is_lit hv (by decide) rfl | exact is_sq hv hq | exact is_row hv hq | exact is_pn hv hq (by assumption) | assumption) (by first | decide | exact vp_in_nI (by assumption) (by decide) | exact vp_in_nI (by omega) (by decide) | assumption) (by first | exact rf_nI hv hq (by assumption) | assumption) ?_
    refine ok_iload dX2_passHour_25 rfl ?_
    refine ok_iload_n dX2_passHour_27 rfl rfl ?_
    refine ok_icmp_ne (tgt := 35) dX2_passHour_28 (by decide) (fun c_28 => ?_) (fun c_28 => ?_)
    · refine ok_aload_n dX2_passHour_35 rfl rfl ?_
      refine ok_iload dX2_passHour_36 rfl ?_
      refine ok_callV (M' := mX2_wouldThrow) (b' := (0, 0)) (As := [_]) (cx := 2) dX2_passHour_38 iX2_wouldThrow w_371 (by decide) rfl (by first | exact is_lit hv (by decide) rfl | exact is_sq hv hq | exact is_row hv hq | exact is_pn hv hq (by assumption) | assumption) rfl (Nat.le_of_ble_eq_true rfl) ⟨Nat.le_of_ble_eq_true rfl, Nat.le_of_ble_eq_true rfl⟩ (Nat.le_of_ble_eq_true rfl) rfl rfl ?_
      refine sp_X2_wouldThrow hv hq ho10 (mid_wr hi R) (hkd _ ho) ?_
      refine ok_callV (M' := mX2_throwIn) (b' := (0, 0)) (As := [_, _]) (cx := 2) dX2_passHour_41 iX2_throwIn w_372 (by decide) rfl (by first | exact is_lit hv (by decide) rfl | exact is_sq hv hq | exact is_row hv hq | exact is_pn hv hq (by assumption) | assumption) rfl (Nat.le_of_ble_eq_true rfl) ⟨Nat.le_of_ble_eq_true rfl, Nat.le_of_ble_eq_true rfl⟩ (Nat.le_of_ble_eq_true rfl) rfl rfl ?_
      refine sp_X2_throwIn hv hq (is_pn hv hq ho10) (by omega) _ ?_
      refine ok_iinc (v := _ + 1) (lo' := [_, _, _, _, _]) dX2_passHour_44 rfl rfl (Nat.le_of_ble_eq_true rfl) rfl rfl ?_
      refine ok_goto (tgt := 2) dX2_passHour_47 (by decide) ?_
      rw [nI_1]
      first
        | exact ih (i + 1) _ _ (by omega) (((F.u (by omega) (by omega)).u (by omega) (by omega)).u (by omega) (by omega)) (rep_throw hv hq hi R (by rw [w_amt, if_neg c_28]))
        | exact ih (i + 1) _ _ (by omega) (((F.u (by omega) (by omega)).u (by omega) (by omega)).u (by omega) (by omega)) (rep_throw hv hq hi R (by rw [w_amt, if_pos c_28]))
    · refine ok_iload_n dX2_passHour_31 rfl rfl ?_
      refine ok_goto (tgt := 41) dX2_passHour_32 (by decide) ?_
      refine ok_callV (M' := mX2_throwIn) (b' := (0, 0)) (As := [_, _]) (cx := 2) dX2_passHour_41 iX2_throwIn w_372 (by decide) rfl (by first | exact is_lit hv (by decide) rfl | exact is_sq hv hq | exact is_row hv hq | exact is_pn hv hq (by assumption) | assumption) rfl (Nat.le_of_ble_eq_true rfl) ⟨Nat.le_of_ble_eq_true rfl, Nat.le_of_ble_eq_true rfl⟩ (Nat.le_of_ble_eq_true rfl) rfl rfl ?_
      refine sp_X2_throwIn hv hq (is_pn hv hq ho10) (by omega) _ ?_
      refine ok_iinc (v := _ + 1) (lo' := [_, _, _, _, _]) dX2_passHour_44 rfl rfl (Nat.le_of_ble_eq_true rfl) rfl rfl ?_
      refine ok_goto (tgt := 2) dX2_passHour_47 (by decide) ?_
      rw [nI_1]
      first
        | exact ih (i + 1) _ _ (by omega) (((F.u (by omega) (by omega)).u (by omega) (by omega)).u (by omega) (by omega)) (rep_throw hv hq hi R (by rw [w_amt, if_neg c_28]))
        | exact ih (i + 1) _ _ (by omega) (((F.u (by omega) (by omega)).u (by omega) (by omega)).u (by omega) (by omega)) (rep_throw hv hq hi R (by rw [w_amt, if_pos c_28]))
theorem sp_X2_passHour {g : GG} {h : Hp} {Post : Option Value → Hp → Prop} (hv : Inv h) {q : Nat} (hq : Sqr q) {n : Nat} {r : Nat → Int32} (R : Rep h q n r) (hkd : ∀ p, p < n → Kd (ro r p 0)) (hl : Lw (r 2)) (who c : Int32) (K : ∀ h', FrI q h h' → Rep h' q n (w_hour r n who c) → Post (some (.int (w_fill (w_will r n who c) n))) h') : Sp g mX2_passHour [.ref q, .int who, .int c] h Post := by
  show Go g mX2_passHour 0 [_, _, _, _, _] [] _ _ _
  refine ok_iconst (v := 0) dX2_passHour_0 (by decide) ?_
  refine ok_istore_n (lo' := [_, _, _, _, _]) dX2_passHour_1 rfl (Nat.le_of_ble_eq_true rfl) rfl rfl ?_
  exact lp_X2_passHour_2 hq hv hkd hl K n 0 h _ (by omega) FrI.rf (rep_mid0 R)
