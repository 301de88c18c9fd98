/-! ===== each call: the class answers as the reference does ===== -/
theorem sm_person {g : GG} {h : Hp} {n z n' : Nat} {r r' : Nat → Int32} {T : Nat → Nat} (I : LI h n r T z n' r') (k : Int32) : Sm g mX4_person mX5_person [.int k] h := by
  have S := I.1
  have hv := S.1
  have R := I.2.1
  have G := S.2.2
  have hn := G.1
  intro P C
  rcases kd_or2 k with hb | hk
  · exact sp_X4_person_b S k hb (C _ _ (by first | exact hv | exact v1 | exact hv.of F1.1 | (show InvR _; rw [F1.2.1]; exact hv)) (fun P' K => sp_X5_person_b (show Inv (hfi h 0) from hv) (R.fr (uI_f (by decide))) k hb (K _ (LE.fnd I (c := 0) (by decide)))))
  · by_cases h10 : n = 10
    · exact sp_X4_person_f S hk h10 (C _ _ (by first | exact hv | exact v1 | exact hv.of F1.1 | (show InvR _; rw [F1.2.1]; exact hv)) (fun P' K => sp_X5_person_f (show Inv (hfi h 1) from hv) (R.fr (uI_f (by decide))) hk h10 (K _ (LE.fnd I (c := 1) (by decide)))))
    · have h10 : n < 10 := by omega
      have FC1 : FrC h (uI (setP h (pn h 2 n) (arrV0 k)) 2 6 (nI (n + 1))) := by
        have hp := pn_in hv s2 (j := n) h10
        exact ((FrI.rf.setP (q := 2) (by omega) (by omega)).u (by decide) (by decide)).fr.c2
      have RC := rep_join (v := arrV0 k) hv s2 h10 S.2.1
      have GJ : RG (w_join r n (arrV0 k)) (n + 1) := G.join h10 hk ⟨5, by decide, rfl⟩ ⟨3, by decide, rfl⟩
      exact sp_X4_person S hk h10 (C _ _ (by first | exact hv | exact v1 | exact hv.of F1.1 | (show InvR _; rw [F1.2.1]; exact hv)) (fun P' K => sp_X5_person (by exact hv) (R.c FC1) hk h10 (fun h2 M2 R2 => K _ (LE.row I FC1 hv RC GJ M2.ql R2))))
theorem sm_of {g : GG} {h : Hp} {n z n' : Nat} {r r' : Nat → Int32} {T : Nat → Nat} (I : LI h n r T z n' r') (p w : Int32) : Sm g mX4_of mX5_of [.int p, .int w] h := by
  have S := I.1
  have hv := S.1
  have R := I.2.1
  have G := S.2.2
  have hn := G.1
  intro P C
  rcases pl_or hn p with hb | ⟨j, hj, rfl⟩
  · exact sp_X4_of_b S p w hb (C _ _ (by first | exact hv | exact v1 | exact hv.of F1.1 | (show InvR _; rw [F1.2.1]; exact hv)) (fun P' K => sp_X5_of_b (show Inv (hfi h 0) from hv) (R.fr (uI_f (by decide))) p w hb (K _ (LE.fnd I (c := 0) (by decide)))))
  · rcases sw_of w 10 (by decide) with ⟨w', hw, rfl⟩ | e | e
    · exact sp_X4_of S hj hw (C _ _ (by first | exact hv | exact v1 | exact hv.of F1.1 | (show InvR _; rw [F1.2.1]; exact hv)) (fun P' K => sp_X5_of hv R G hj hw (K _ I.le)))
    · exact sp_X4_of_w S hj (Or.inl e) (C _ _ (by first | exact hv | exact v1 | exact hv.of F1.1 | (show InvR _; rw [F1.2.1]; exact hv)) (fun P' K => sp_X5_of_w (show Inv (hfi h 0) from hv) (R.fr (uI_f (by decide))) hj (Or.inl e) (K _ (LE.fnd I (c := 0) (by decide)))))
    · exact sp_X4_of_w S hj (Or.inr (by omega)) (C _ _ (by first | exact hv | exact v1 | exact hv.of F1.1 | (show InvR _; rw [F1.2.1]; exact hv)) (fun P' K => sp_X5_of_w (show Inv (hfi h 0) from hv) (R.fr (uI_f (by decide))) hj (Or.inr (by omega)) (K _ (LE.fnd I (c := 0) (by decide)))))
theorem sm_set {g : GG} {h : Hp} {n z n' : Nat} {r r' : Nat → Int32} {T : Nat → Nat} (I : LI h n r T z n' r') (p w v : Int32) : Sm g mX4_set mX5_set [.int p, .int w, .int v] h := by
  have S := I.1
  have hv := S.1
  have R := I.2.1
  have G := S.2.2
  have hn := G.1
  intro P C
  rcases pl_or hn p with hb | ⟨j, hj, rfl⟩
  · exact sp_X4_set_b S p w v hb (C _ _ (by first | exact hv | exact v1 | exact hv.of F1.1 | (show InvR _; rw [F1.2.1]; exact hv)) (fun P' K => sp_X5_set_b (show Inv (hfi h 0) from hv) (R.fr (uI_f (by decide))) p w v hb (K _ (LE.fnd I (c := 0) (by decide)))))
  · rcases may_or w v with hm | ⟨hm, w', hw, rfl⟩
    · exact sp_X4_set_w S hj hm (C _ _ (by first | exact hv | exact v1 | exact hv.of F1.1 | (show InvR _; rw [F1.2.1]; exact hv)) (fun P' K => sp_X5_set_w (show Inv (hfi h 0) from hv) (R.fr (uI_f (by decide))) hj hm (K _ (LE.fnd I (c := 0) (by decide)))))
    · have hp := pn_in hv s2 (j := j) (by omega)
      have FC1 : FrC h (uI h (pn h 2 j) w' v) := (FrI.rf.u (q := 2) (by omega) (by omega)).fr.c2
      have RC := rep_uP (v := v) hv s2 hj (show w' < 7 by omega) S.2.1
      exact sp_X4_set S hj hw hm (C _ _ (by first | exact hv | exact v1 | exact hv.of F1.1 | (show InvR _; rw [F1.2.1]; exact hv)) (fun P' K => sp_X5_set (by exact hv) (R.c FC1) hj hw hm (fun h2 M2 R2 => K _ (LE.row I FC1 hv RC (G.prs hw hm) M2.ql R2))))
theorem sm_turn {g : GG} {h : Hp} {n z n' : Nat} {r r' : Nat → Int32} {T : Nat → Nat} (I : LI h n r T z n' r') (p k : Int32) : Sm g mX4_turn mX5_turn [.int p, .int k] h := by
  have S := I.1
  have hv := S.1
  have R := I.2.1
  have G := S.2.2
  have hn := G.1
  intro P C
  rcases pl_or hn p with hb | ⟨j, hj, rfl⟩
  · exact sp_X4_turn_b S p k hb (C _ _ (by first | exact hv | exact v1 | exact hv.of F1.1 | (show InvR _; rw [F1.2.1]; exact hv)) (fun P' K => sp_X5_turn_b (show Inv (hfi h 0) from hv) (R.fr (uI_f (by decide))) p k hb (K _ (LE.fnd I (c := 0) (by decide)))))
  · rcases kd_or2 k with hb | hk
    · exact sp_X4_turn_w S hj hb (C _ _ (by first | exact hv | exact v1 | exact hv.of F1.1 | (show InvR _; rw [F1.2.1]; exact hv)) (fun P' K => sp_X5_turn_w (show Inv (hfi h 0) from hv) (R.fr (uI_f (by decide))) hj hb (K _ (LE.fnd I (c := 0) (by decide)))))
    · have hp := pn_in hv s2 (j := j) (by omega)
      have FC1 : FrC h (uI h (pn h 2 j) 0 k) := (FrI.rf.u (q := 2) (by omega) (by omega)).fr.c2
      have RC := rep_uP (v := k) hv s2 hj (show 0 < 7 by decide) S.2.1
      exact sp_X4_turn S hj hk (C _ _ (by first | exact hv | exact v1 | exact hv.of F1.1 | (show InvR _; rw [F1.2.1]; exact hv)) (fun P' K => sp_X5_turn (by exact hv) (R.c FC1) hj hk (fun h2 M2 R2 => K _ (LE.row I FC1 hv RC (G.kind hk) M2.ql R2))))
theorem sm_as {g : GG} {h : Hp} {n z n' : Nat} {r r' : Nat → Int32} {T : Nat → Nat} (I : LI h n r T z n' r') (X : Gx g) (p k : Int32) : Sm g mX4_as mX5_as [.int p, .int k] h := by
  have S := I.1
  have hv := S.1
  have R := I.2.1
  have G := S.2.2
  have hn := G.1
  intro P C
  rcases pl_or hn p with hb | ⟨j, hj, rfl⟩
  · exact sp_X4_as_b S p k hb (C _ _ (by first | exact hv | exact v1 | exact hv.of F1.1 | (show InvR _; rw [F1.2.1]; exact hv)) (fun P' K => sp_X5_as_b (show Inv (hfi h 0) from hv) (R.fr (uI_f (by decide))) p k hb (K _ (LE.fnd I (c := 0) (by decide)))))
  · rcases kd_or2 k with hb | hk
    · exact sp_X4_as_w S hj hb (C _ _ (by first | exact hv | exact v1 | exact hv.of F1.1 | (show InvR _; rw [F1.2.1]; exact hv)) (fun P' K => sp_X5_as_w (show Inv (hfi h 0) from hv) (R.fr (uI_f (by decide))) hj hb (K _ (LE.fnd I (c := 0) (by decide)))))
    · rcases it_b 6 (ro r j 0) k with hi | hi
      · exact sp_X4_as_k S hj X hk hi (C _ _ (by first | exact hv | exact v1 | exact hv.of F1.1 | (show InvR _; rw [F1.2.1]; exact hv)) (fun P' K => sp_X5_as_k (show Inv (hfi h 2) from hv) (R.fr (uI_f (by decide))) G hj hk hi (K _ (LE.fnd I (c := 2) (by decide)))))
      · exact sp_X4_as S hj X hk hi (C _ _ (by first | exact hv | exact v1 | exact hv.of F1.1 | (show InvR _; rw [F1.2.1]; exact hv)) (fun P' K => sp_X5_as hv R G hj hk hi (K _ I.le)))
theorem sm_move {g : GG} {h : Hp} {n z n' : Nat} {r r' : Nat → Int32} {T : Nat → Nat} (I : LI h n r T z n' r') (p t : Int32) : Sm g mX4_move mX5_move [.int p, .int t] h := by
  have S := I.1
  have hv := S.1
  have R := I.2.1
  have G := S.2.2
  have hn := G.1
  intro P C
  rcases pl_or hn p with hb | ⟨j, hj, rfl⟩
  · exact sp_X4_move_b S p t hb (C _ _ (by first | exact hv | exact v1 | exact hv.of F1.1 | (show InvR _; rw [F1.2.1]; exact hv)) (fun P' K => sp_X5_move_b (show Inv (hfi h 0) from hv) (R.fr (uI_f (by decide))) p t hb (K _ (LE.fnd I (c := 0) (by decide)))))
  · rcases pl_or hn t with hb | ⟨t', ht, rfl⟩
    · exact sp_X4_move_w S hj hb (C _ _ (by first | exact hv | exact v1 | exact hv.of F1.1 | (show InvR _; rw [F1.2.1]; exact hv)) (fun P' K => sp_X5_move_w (show Inv (hfi h 0) from hv) (R.fr (uI_f (by decide))) hj hb (K _ (LE.fnd I (c := 0) (by decide)))))
    · have FC1 : FrC h (hmv h 2 j t') := (Fr.pm (π := mv j t')).c2
      have v1 : Inv (hmv h 2 j t') := inv_pm hv s2 (fun x hx => mv_lt (m := 10) (by omega) (by omega) hx) (fun i j _ _ e => mv_inj2 e)
      have RC : Rep (hmv h 2 j t') 2 n (w_pm r (mv j t')) := rep_pm S.2.1 (fun x hx => mv_lt hj ht hx)
      exact sp_X4_move S hj ht (C _ _ (by first | exact hv | exact v1 | exact hv.of F1.1 | (show InvR _; rw [F1.2.1]; exact hv)) (fun P' K => sp_X5_move v1 (R.c FC1) hj ht (fun h2 M2 R2 => K _ (LE.row I FC1 v1 RC (G.pm (fun x hx => mv_lt hj ht hx)) M2.ql R2))))
theorem sm_leave {g : GG} {h : Hp} {n z n' : Nat} {r r' : Nat → Int32} {T : Nat → Nat} (I : LI h n r T z n' r') (p : Int32) : Sm g mX4_leave mX5_leave [.int p] h := by
  have S := I.1
  have hv := S.1
  have R := I.2.1
  have G := S.2.2
  have hn := G.1
  intro P C
  rcases pl_or hn p with hb | ⟨j, hj, rfl⟩
  · exact sp_X4_leave_b S p hb (C _ _ (by first | exact hv | exact v1 | exact hv.of F1.1 | (show InvR _; rw [F1.2.1]; exact hv)) (fun P' K => sp_X5_leave_b (show Inv (hfi h 0) from hv) (R.fr (uI_f (by decide))) p hb (K _ (LE.fnd I (c := 0) (by decide)))))
  · obtain ⟨m, rfl⟩ : ∃ m, n = m + 1 := ⟨n - 1, by omega⟩
    have FC1 : FrC h (uI (hmv h 2 j m) 2 6 (nI m)) := ((Fr.pm (π := mv j m)).u (by decide) (by decide)).c2
    have v0 : Inv (hmv h 2 j m) := inv_pm hv s2 (fun x hx => mv_lt (m := 10) (by omega) (by omega) hx) (fun i j _ _ e => mv_inj2 e)
    have v1 : Inv (uI (hmv h 2 j m) 2 6 (nI m)) := v0
    have R0 : Rep (hmv h 2 j m) 2 (m + 1) (w_pm r (mv j m)) := rep_pm S.2.1 (fun x hx => mv_lt hj (by omega) hx)
    have RC := rep_drop v0 s2 R0
    have GD := (G.pm (π := mv j m) (fun x hx => mv_lt hj (by omega) hx)).drop
    exact sp_X4_leave S hj (C _ _ (by first | exact hv | exact v1 | exact hv.of F1.1 | (show InvR _; rw [F1.2.1]; exact hv)) (fun P' K => sp_X5_leave v1 (R.c FC1) hj (fun h2 M2 R2 => K _ (LE.row I FC1 v1 RC GD M2.ql R2))))
theorem sm_coins {g : GG} {h : Hp} {n z n' : Nat} {r r' : Nat → Int32} {T : Nat → Nat} (I : LI h n r T z n' r') (v : Int32) : Sm g mX4_coins mX5_coins [.int v] h := by
  have S := I.1
  have hv := S.1
  have R := I.2.1
  have G := S.2.2
  have hn := G.1
  intro P C
  rcases in_or v 0 999 with hb | ⟨h1, h2⟩
  · exact sp_X4_coins_b S v hb (C _ _ (by first | exact hv | exact v1 | exact hv.of F1.1 | (show InvR _; rw [F1.2.1]; exact hv)) (fun P' K => sp_X5_coins_b (show Inv (hfi h 0) from hv) (R.fr (uI_f (by decide))) v hb (K _ (LE.fnd I (c := 0) (by decide)))))
  · have FC1 : FrC h (uI h 2 0 v) := (FrI.rf.u (q := 2) (by decide) (by decide)).fr.c2
    have RC := rep_uS (k := 0) (v := v) hv s2 (by decide) S.2.1
    exact sp_X4_coins S v h1 h2 (C _ _ (by first | exact hv | exact v1 | exact hv.of F1.1 | (show InvR _; rw [F1.2.1]; exact hv)) (fun P' K => sp_X5_coins (by exact hv) (R.c FC1) v h1 h2 (fun h3 M2 R2 => K _ (LE.row I FC1 hv RC (G.sca (by decide) (by decide) (fun c => absurd c (by decide)) (fun c => absurd c (by decide))) M2.ql R2))))
theorem sm_law {g : GG} {h : Hp} {n z n' : Nat} {r r' : Nat → Int32} {T : Nat → Nat} (I : LI h n r T z n' r') (v : Int32) : Sm g mX4_law mX5_law [.int v] h := by
  have S := I.1
  have hv := S.1
  have R := I.2.1
  have G := S.2.2
  have hn := G.1
  intro P C
  rcases in_or v 0 2 with hb | ⟨h1, h2⟩
  · exact sp_X4_law_b S v hb (C _ _ (by first | exact hv | exact v1 | exact hv.of F1.1 | (show InvR _; rw [F1.2.1]; exact hv)) (fun P' K => sp_X5_law_b (show Inv (hfi h 0) from hv) (R.fr (uI_f (by decide))) v hb (K _ (LE.fnd I (c := 0) (by decide)))))
  · have FC1 : FrC h (uI h 2 1 v) := (FrI.rf.u (q := 2) (by decide) (by decide)).fr.c2
    have RC := rep_uS (k := 1) (v := v) hv s2 (by decide) S.2.1
    exact sp_X4_law S v h1 h2 (C _ _ (by first | exact hv | exact v1 | exact hv.of F1.1 | (show InvR _; rw [F1.2.1]; exact hv)) (fun P' K => sp_X5_law (by exact hv) (R.c FC1) v h1 h2 (fun h3 M2 R2 => K _ (LE.row I FC1 hv RC (G.sca (by decide) (by decide) (fun _ => lw_of h1 h2) (fun c => absurd c (by decide))) M2.ql R2))))
theorem sm_diver {g : GG} {h : Hp} {n z n' : Nat} {r r' : Nat → Int32} {T : Nat → Nat} (I : LI h n r T z n' r') {w : Int32} (hw : B01 w) (l : Int32) : Sm g mX4_diver mX5_diver [.int w, .int l] h := by
  have S := I.1
  have hv := S.1
  have R := I.2.1
  have G := S.2.2
  have hn := G.1
  intro P C
  rcases in_or l (-20) 20 with hb | ⟨h1, h2⟩
  · exact sp_X4_diver_b S w l hb (C _ _ (by first | exact hv | exact v1 | exact hv.of F1.1 | (show InvR _; rw [F1.2.1]; exact hv)) (fun P' K => sp_X5_diver_b (show Inv (hfi h 0) from hv) (R.fr (uI_f (by decide))) w l hb (K _ (LE.fnd I (c := 0) (by decide)))))
  · have FC1 : FrC h (uI (uI h 2 2 w) 2 3 (if w = 0 then 0 else l)) := ((FrI.rf.u (q := 2) (by decide) (by decide)).u (by decide) (by decide)).fr.c2
    have RC := rep_uS (h := uI h 2 2 w) (k := 3) (v := if w = 0 then 0 else l) hv s2 (by decide) (rep_uS (k := 2) (v := w) hv s2 (by decide) S.2.1)
    exact sp_X4_diver S hw h1 h2 (C _ _ (by first | exact hv | exact v1 | exact hv.of F1.1 | (show InvR _; rw [F1.2.1]; exact hv)) (fun P' K => sp_X5_diver (by exact hv) (R.c FC1) hw h1 h2 (fun h3 M2 R2 => K _ (LE.row I FC1 hv RC (G.div hw l) M2.ql R2))))
theorem sm_hours {g : GG} {h : Hp} {n z n' : Nat} {r r' : Nat → Int32} {T : Nat → Nat} (I : LI h n r T z n' r') (v : Int32) : Sm g mX4_hours mX5_hours [.int v] h := by
  have S := I.1
  have hv := S.1
  have R := I.2.1
  have G := S.2.2
  have hn := G.1
  intro P C
  rcases in_or v 1 200 with hb | ⟨h1, h2⟩
  · exact sp_X4_hours_b S v hb (C _ _ (by first | exact hv | exact v1 | exact hv.of F1.1 | (show InvR _; rw [F1.2.1]; exact hv)) (fun P' K => sp_X5_hours_b (show Inv (hfi h 0) from hv) (R.fr (uI_f (by decide))) v hb (K _ (LE.fnd I (c := 0) (by decide)))))
  · by_cases hs : r 5 + v ≤ 9999
    · obtain ⟨m, m1, m2, rfl⟩ := nat_of (a := 1) (b := 200) (by decide) h1 h2 (by decide)
      exact sp_X4_hours S m1 m2 hs (fun h1 F1 R1 => C _ _ (by first | exact hv | exact v1 | exact hv.of F1.1 | (show InvR _; rw [F1.2.1]; exact hv)) (fun P' K => sp_X5_hours (hv.of F1.1) (R.c F1.fr.c2) G m1 m2 hs (fun h2 M2 R2 => K _ (LE.row I F1.fr.c2 (hv.of F1.1) R1 (G.hrs m) M2.ql R2))))
    · exact sp_X4_hours_s S v h1 h2 hs (C _ _ (by first | exact hv | exact v1 | exact hv.of F1.1 | (show InvR _; rw [F1.2.1]; exact hv)) (fun P' K => sp_X5_hours_s (show Inv (hfi h 4) from hv) (R.fr (uI_f (by decide))) v h1 h2 hs (K _ (LE.fnd I (c := 4) (by decide)))))
theorem sm_now {g : GG} {h : Hp} {n z n' : Nat} {r r' : Nat → Int32} {T : Nat → Nat} (I : LI h n r T z n' r') (w : Int32) : Sm g mX4_now mX5_now [.int w] h := by
  have S := I.1
  have hv := S.1
  have R := I.2.1
  have G := S.2.2
  have hn := G.1
  intro P C
  rcases sw_of w 9 (by decide) with ⟨w', hw, rfl⟩ | e | e
  · exact sp_X4_now S hw (C _ _ (by first | exact hv | exact v1 | exact hv.of F1.1 | (show InvR _; rw [F1.2.1]; exact hv)) (fun P' K => sp_X5_now hv R hw (K _ I.le)))
  · exact sp_X4_now_w S (Or.inl e) (C _ _ (by first | exact hv | exact v1 | exact hv.of F1.1 | (show InvR _; rw [F1.2.1]; exact hv)) (fun P' K => sp_X5_now_w (show Inv (hfi h 0) from hv) (R.fr (uI_f (by decide))) (Or.inl e) (K _ (LE.fnd I (c := 0) (by decide)))))
  · exact sp_X4_now_w S (Or.inr (by omega)) (C _ _ (by first | exact hv | exact v1 | exact hv.of F1.1 | (show InvR _; rw [F1.2.1]; exact hv)) (fun P' K => sp_X5_now_w (show Inv (hfi h 0) from hv) (R.fr (uI_f (by decide))) (Or.inr (by omega)) (K _ (LE.fnd I (c := 0) (by decide)))))
theorem sm_runs {g : GG} {h : Hp} {n z n' : Nat} {r r' : Nat → Int32} {T : Nat → Nat} (I : LI h n r T z n' r')  : Sm g mX4_runs mX5_runs [] h := by
  have S := I.1
  have hv := S.1
  have R := I.2.1
  have G := S.2.2
  have hn := G.1
  intro P C
  exact sp_X4_runs S (fun h1 F1 v1 => C _ _ (by first | exact hv | exact v1 | exact hv.of F1.1 | (show InvR _; rw [F1.2.1]; exact hv)) (fun P' K => sp_X5_runs v1 (R.c F1.c14) G  (fun h2 M2 => K _ (LE.qry I F1 v1 M2.1.ql (M2.rm (R.c F1.c14))))))
theorem sm_all {g : GG} {h : Hp} {n z n' : Nat} {r r' : Nat → Int32} {T : Nat → Nat} (I : LI h n r T z n' r')  : Sm g mX4_all mX5_all [] h := by
  have S := I.1
  have hv := S.1
  have R := I.2.1
  have G := S.2.2
  have hn := G.1
  intro P C
  exact sp_X4_all S (fun h1 F1 v1 => C _ _ (by first | exact hv | exact v1 | exact hv.of F1.1 | (show InvR _; rw [F1.2.1]; exact hv)) (fun P' K => sp_X5_all v1 (R.c F1.c14) G  (fun h2 M2 => K _ (LE.qry I F1 v1 M2.1.ql (M2.rm (R.c F1.c14))))))
theorem sm_sorry {g : GG} {h : Hp} {n z n' : Nat} {r r' : Nat → Int32} {T : Nat → Nat} (I : LI h n r T z n' r')  : Sm g mX4_sorry mX5_sorry [] h := by
  have S := I.1
  have hv := S.1
  have R := I.2.1
  have G := S.2.2
  have hn := G.1
  intro P C
  exact sp_X4_sorry S (fun h1 F1 v1 => C _ _ (by first | exact hv | exact v1 | exact hv.of F1.1 | (show InvR _; rw [F1.2.1]; exact hv)) (fun P' K => sp_X5_sorry v1 (R.c F1.c14) G  (fun h2 M2 => K _ (LE.qry I F1 v1 M2.1.ql (M2.rm (R.c F1.c14))))))
theorem sm_lie {g : GG} {h : Hp} {n z n' : Nat} {r r' : Nat → Int32} {T : Nat → Nat} (I : LI h n r T z n' r')  : Sm g mX4_lie mX5_lie [] h := by
  have S := I.1
  have hv := S.1
  have R := I.2.1
  have G := S.2.2
  have hn := G.1
  intro P C
  exact sp_X4_lie S (fun h1 F1 v1 => C _ _ (by first | exact hv | exact v1 | exact hv.of F1.1 | (show InvR _; rw [F1.2.1]; exact hv)) (fun P' K => sp_X5_lie v1 (R.c F1.c14) G  (fun h2 M2 R2 => K _ (LE.qry I F1 v1 M2.ql R2))))
theorem sm_word {g : GG} {h : Hp} {n z n' : Nat} {r r' : Nat → Int32} {T : Nat → Nat} (I : LI h n r T z n' r')  : Sm g mX4_word mX5_word [] h := by
  have S := I.1
  have hv := S.1
  have R := I.2.1
  have G := S.2.2
  have hn := G.1
  intro P C
  exact sp_X4_word S (fun h1 F1 v1 => C _ _ (by first | exact hv | exact v1 | exact hv.of F1.1 | (show InvR _; rw [F1.2.1]; exact hv)) (fun P' K => sp_X5_word v1 (R.c F1.c14) G  (fun h2 M2 R2 => K _ (LE.qry I F1 v1 M2.ql R2))))
theorem sm_fair {g : GG} {h : Hp} {n z n' : Nat} {r r' : Nat → Int32} {T : Nat → Nat} (I : LI h n r T z n' r')  : Sm g mX4_fair mX5_fair [] h := by
  have S := I.1
  have hv := S.1
  have R := I.2.1
  have G := S.2.2
  have hn := G.1
  intro P C
  exact sp_X4_fair S (fun h1 F1 v1 => C _ _ (by first | exact hv | exact v1 | exact hv.of F1.1 | (show InvR _; rw [F1.2.1]; exact hv)) (fun P' K => sp_X5_fair v1 (R.c F1.c14) G  (fun h2 M2 R2 => K _ (LE.qry I F1 v1 M2.ql R2))))
theorem sm_thrown {g : GG} {h : Hp} {n z n' : Nat} {r r' : Nat → Int32} {T : Nat → Nat} (I : LI h n r T z n' r') (p : Int32) : Sm g mX4_thrown mX5_thrown [.int p] h := by
  have S := I.1
  have hv := S.1
  have R := I.2.1
  have G := S.2.2
  have hn := G.1
  intro P C
  rcases pl_or hn p with hb | ⟨j, hj, rfl⟩
  · exact sp_X4_thrown_b S p hb (C _ _ (by first | exact hv | exact v1 | exact hv.of F1.1 | (show InvR _; rw [F1.2.1]; exact hv)) (fun P' K => sp_X5_thrown_b (show Inv (hfi h 0) from hv) (R.fr (uI_f (by decide))) p hb (K _ (LE.fnd I (c := 0) (by decide)))))
  · exact sp_X4_thrown S hj (fun h1 F1 v1 => C _ _ (by first | exact hv | exact v1 | exact hv.of F1.1 | (show InvR _; rw [F1.2.1]; exact hv)) (fun P' K => sp_X5_thrown v1 (R.c F1.c14) G hj (fun h2 M2 => K _ (LE.qry I F1 v1 M2.1.ql (M2.rm (R.c F1.c14))))))
theorem sm_gain {g : GG} {h : Hp} {n z n' : Nat} {r r' : Nat → Int32} {T : Nat → Nat} (I : LI h n r T z n' r') (p : Int32) : Sm g mX4_gain mX5_gain [.int p] h := by
  have S := I.1
  have hv := S.1
  have R := I.2.1
  have G := S.2.2
  have hn := G.1
  intro P C
  rcases pl_or hn p with hb | ⟨j, hj, rfl⟩
  · exact sp_X4_gain_b S p hb (C _ _ (by first | exact hv | exact v1 | exact hv.of F1.1 | (show InvR _; rw [F1.2.1]; exact hv)) (fun P' K => sp_X5_gain_b (show Inv (hfi h 0) from hv) (R.fr (uI_f (by decide))) p hb (K _ (LE.fnd I (c := 0) (by decide)))))
  · exact sp_X4_gain S hj (fun h1 F1 v1 => C _ _ (by first | exact hv | exact v1 | exact hv.of F1.1 | (show InvR _; rw [F1.2.1]; exact hv)) (fun P' K => sp_X5_gain v1 (R.c F1.c14) G hj (fun h2 M2 => K _ (LE.qry I F1 v1 M2.1.ql (M2.rm (R.c F1.c14))))))
theorem sm_best {g : GG} {h : Hp} {n z n' : Nat} {r r' : Nat → Int32} {T : Nat → Nat} (I : LI h n r T z n' r') (p : Int32) : Sm g mX4_best mX5_best [.int p] h := by
  have S := I.1
  have hv := S.1
  have R := I.2.1
  have G := S.2.2
  have hn := G.1
  intro P C
  rcases pl_or hn p with hb | ⟨j, hj, rfl⟩
  · exact sp_X4_best_b S p hb (C _ _ (by first | exact hv | exact v1 | exact hv.of F1.1 | (show InvR _; rw [F1.2.1]; exact hv)) (fun P' K => sp_X5_best_b (show Inv (hfi h 0) from hv) (R.fr (uI_f (by decide))) p hb (K _ (LE.fnd I (c := 0) (by decide)))))
  · exact sp_X4_best S hj (fun h1 F1 v1 => C _ _ (by first | exact hv | exact v1 | exact hv.of F1.1 | (show InvR _; rw [F1.2.1]; exact hv)) (fun P' K => sp_X5_best v1 (R.c F1.c14) G hj (fun h2 M2 => K _ (LE.qry I F1 v1 M2.1.ql (M2.rm (R.c F1.c14))))))
theorem sm_regret {g : GG} {h : Hp} {n z n' : Nat} {r r' : Nat → Int32} {T : Nat → Nat} (I : LI h n r T z n' r') (p : Int32) : Sm g mX4_regret mX5_regret [.int p] h := by
  have S := I.1
  have hv := S.1
  have R := I.2.1
  have G := S.2.2
  have hn := G.1
  intro P C
  rcases pl_or hn p with hb | ⟨j, hj, rfl⟩
  · exact sp_X4_regret_b S p hb (C _ _ (by first | exact hv | exact v1 | exact hv.of F1.1 | (show InvR _; rw [F1.2.1]; exact hv)) (fun P' K => sp_X5_regret_b (show Inv (hfi h 0) from hv) (R.fr (uI_f (by decide))) p hb (K _ (LE.fnd I (c := 0) (by decide)))))
  · exact sp_X4_regret S hj (fun h1 F1 v1 => C _ _ (by first | exact hv | exact v1 | exact hv.of F1.1 | (show InvR _; rw [F1.2.1]; exact hv)) (fun P' K => sp_X5_regret v1 (R.c F1.c14) G hj (fun h2 M2 => K _ (LE.qry I F1 v1 M2.1.ql (M2.rm (R.c F1.c14))))))
theorem sm_stand {g : GG} {h : Hp} {n z n' : Nat} {r r' : Nat → Int32} {T : Nat → Nat} (I : LI h n r T z n' r') (p : Int32) : Sm g mX4_stand mX5_stand [.int p] h := by
  have S := I.1
  have hv := S.1
  have R := I.2.1
  have G := S.2.2
  have hn := G.1
  intro P C
  rcases pl_or hn p with hb | ⟨j, hj, rfl⟩
  · exact sp_X4_stand_b S p hb (C _ _ (by first | exact hv | exact v1 | exact hv.of F1.1 | (show InvR _; rw [F1.2.1]; exact hv)) (fun P' K => sp_X5_stand_b (show Inv (hfi h 0) from hv) (R.fr (uI_f (by decide))) p hb (K _ (LE.fnd I (c := 0) (by decide)))))
  · exact sp_X4_stand S hj (fun h1 F1 v1 => C _ _ (by first | exact hv | exact v1 | exact hv.of F1.1 | (show InvR _; rw [F1.2.1]; exact hv)) (fun P' K => sp_X5_stand v1 (R.c F1.c14) G hj (fun h2 M2 R2 => K _ (LE.qry I F1 v1 M2.ql R2))))
theorem sm_kind {g : GG} {h : Hp} {n z n' : Nat} {r r' : Nat → Int32} {T : Nat → Nat} (I : LI h n r T z n' r') (p : Int32) : Sm g mX4_kind mX5_kind [.int p] h := by
  have S := I.1
  have hv := S.1
  have R := I.2.1
  have G := S.2.2
  have hn := G.1
  intro P C
  rcases pl_or hn p with hb | ⟨j, hj, rfl⟩
  · exact sp_X4_kind_b S p hb (C _ _ (by first | exact hv | exact v1 | exact hv.of F1.1 | (show InvR _; rw [F1.2.1]; exact hv)) (fun P' K => sp_X5_kind_b (show Inv (hfi h 0) from hv) (R.fr (uI_f (by decide))) p hb (K _ (LE.fnd I (c := 0) (by decide)))))
  · exact sp_X4_kind S hj (fun h1 F1 v1 => C _ _ (by first | exact hv | exact v1 | exact hv.of F1.1 | (show InvR _; rw [F1.2.1]; exact hv)) (fun P' K => sp_X5_kind v1 (R.c F1.c14) G hj (fun h2 M2 R2 => K _ (LE.qry I F1 v1 M2.ql R2))))
theorem sm_on {g : GG} {h : Hp} {n z n' : Nat} {r r' : Nat → Int32} {T : Nat → Nat} (I : LI h n r T z n' r') (p v : Int32) : Sm g mX4_on mX5_on [.int p, .int v] h := by
  have S := I.1
  have hv := S.1
  have R := I.2.1
  have G := S.2.2
  have hn := G.1
  intro P C
  rcases pl_or hn p with hb | ⟨j, hj, rfl⟩
  · exact sp_X4_on_b S p v hb (C _ _ (by first | exact hv | exact v1 | exact hv.of F1.1 | (show InvR _; rw [F1.2.1]; exact hv)) (fun P' K => sp_X5_on_b (show Inv (hfi h 0) from hv) (R.fr (uI_f (by decide))) p v hb (K _ (LE.fnd I (c := 0) (by decide)))))
  · rcases in_or v 0 200 with hb | ⟨h1, h2⟩
    · exact sp_X4_on_w S hj hb (C _ _ (by first | exact hv | exact v1 | exact hv.of F1.1 | (show InvR _; rw [F1.2.1]; exact hv)) (fun P' K => sp_X5_on_w (show Inv (hfi h 0) from hv) (R.fr (uI_f (by decide))) hj hb (K _ (LE.fnd I (c := 0) (by decide)))))
    · by_cases hs : r 5 + v ≤ 9999
      · obtain ⟨m, -, m2, rfl⟩ := nat_of (a := 0) (b := 200) (by decide) h1 h2 (by decide)
        exact sp_X4_on S hj m2 hs (fun h1 F1 v1 => C _ _ (by first | exact hv | exact v1 | exact hv.of F1.1 | (show InvR _; rw [F1.2.1]; exact hv)) (fun P' K => sp_X5_on v1 (R.c F1.c14) G hj m2 hs (fun h2 M2 R2 => K _ (LE.qry I F1 v1 M2 R2))))
      · exact sp_X4_on_s S hj h1 h2 hs (C _ _ (by first | exact hv | exact v1 | exact hv.of F1.1 | (show InvR _; rw [F1.2.1]; exact hv)) (fun P' K => sp_X5_on_s (show Inv (hfi h 4) from hv) (R.fr (uI_f (by decide))) hj h1 h2 hs (K _ (LE.fnd I (c := 4) (by decide)))))
theorem sm_empty {g : GG} {h : Hp} {n z n' : Nat} {r r' : Nat → Int32} {T : Nat → Nat} (I : LI h n r T z n' r')  : Sm g mX4_empty mX5_empty [] h := by
  have S := I.1
  have hv := S.1
  have R := I.2.1
  have G := S.2.2
  have hn := G.1
  intro P C
  by_cases hs : r 5 ≤ 9799
  · rcases least (fun k => w_emp r n k = 0) 201 with ⟨m, m1, m2, m3⟩ | hne
    · have m1 : m ≤ 200 := by omega
      exact sp_X4_empty S hs m1 m2 m3 (fun h1 F1 v1 => C _ _ (by first | exact hv | exact v1 | exact hv.of F1.1 | (show InvR _; rw [F1.2.1]; exact hv)) (fun P' K => sp_X5_empty v1 (R.c F1.c14) G hs m1 m2 m3 (fun h2 M2 R2 => K _ (LE.qry I F1 v1 M2 R2))))
    · exact sp_X4_empty_n S hs hne (fun h1 F1 v1 => C _ _ (by first | exact hv | exact v1 | exact hv.of F1.1 | (show InvR _; rw [F1.2.1]; exact hv)) (fun P' K => sp_X5_empty_n (show Inv (hfi h1 3) from v1) ((R.c F1.c14).fr (uI_f (by decide))) G hs hne (fun h2 M2 R2 => K _ (LE.qf I (c := 3) (by decide) F1 v1 M2 R2))))
  · exact sp_X4_empty_s S hs (C _ _ (by first | exact hv | exact v1 | exact hv.of F1.1 | (show InvR _; rw [F1.2.1]; exact hv)) (fun P' K => sp_X5_empty_s (show Inv (hfi h 4) from hv) (R.fr (uI_f (by decide))) hs (K _ (LE.fnd I (c := 4) (by decide)))))
theorem sm_gainIf {g : GG} {h : Hp} {n z n' : Nat} {r r' : Nat → Int32} {T : Nat → Nat} (I : LI h n r T z n' r') (p c : Int32) : Sm g mX4_gainIf mX5_gainIf [.int p, .int c] h := by
  have S := I.1
  have hv := S.1
  have R := I.2.1
  have G := S.2.2
  have hn := G.1
  intro P C
  rcases pl_or hn p with hb | ⟨j, hj, rfl⟩
  · exact sp_X4_gainIf_b S p c hb (C _ _ (by first | exact hv | exact v1 | exact hv.of F1.1 | (show InvR _; rw [F1.2.1]; exact hv)) (fun P' K => sp_X5_gainIf_b (show Inv (hfi h 0) from hv) (R.fr (uI_f (by decide))) p c hb (K _ (LE.fnd I (c := 0) (by decide)))))
  · rcases in_or c 0 99 with hb | ⟨b1, b2⟩
    · exact sp_X4_gainIf_w S hj hb (C _ _ (by first | exact hv | exact v1 | exact hv.of F1.1 | (show InvR _; rw [F1.2.1]; exact hv)) (fun P' K => sp_X5_gainIf_w (show Inv (hfi h 0) from hv) (R.fr (uI_f (by decide))) hj hb (K _ (LE.fnd I (c := 0) (by decide)))))
    · by_cases hs : c ≤ ro r j 1
      · exact sp_X4_gainIf S hj b1 b2 hs (fun h1 F1 v1 => C _ _ (by first | exact hv | exact v1 | exact hv.of F1.1 | (show InvR _; rw [F1.2.1]; exact hv)) (fun P' K => sp_X5_gainIf v1 (R.c F1.c14) G hj b1 b2 hs (fun h2 M2 => K _ (LE.qry I F1 v1 M2.1.ql (M2.rm (R.c F1.c14))))))
      · exact sp_X4_gainIf_s S hj b1 b2 hs (C _ _ (by first | exact hv | exact v1 | exact hv.of F1.1 | (show InvR _; rw [F1.2.1]; exact hv)) (fun P' K => sp_X5_gainIf_s (show Inv (hfi h 4) from hv) (R.fr (uI_f (by decide))) hj b1 b2 hs (K _ (LE.fnd I (c := 4) (by decide)))))
theorem sm_rests {g : GG} {h : Hp} {n z n' : Nat} {r r' : Nat → Int32} {T : Nat → Nat} (I : LI h n r T z n' r')  : Sm g mX4_rests mX5_rests [] h := by
  have S := I.1
  have hv := S.1
  have R := I.2.1
  have G := S.2.2
  have hn := G.1
  intro P C
  by_cases h8 : n ≤ 8
  · exact sp_X4_rests S h8 (C _ _ (by first | exact hv | exact v1 | exact hv.of F1.1 | (show InvR _; rw [F1.2.1]; exact hv)) (fun P' K => sp_X5_rests hv R G h8 (K _ I.le)))
  · have h8 : 8 < n := by omega
    exact sp_X4_rests_s S h8 (C _ _ (by first | exact hv | exact v1 | exact hv.of F1.1 | (show InvR _; rw [F1.2.1]; exact hv)) (fun P' K => sp_X5_rests_s (show Inv (hfi h 6) from hv) (R.fr (uI_f (by decide))) h8 (K _ (LE.fnd I (c := 6) (by decide)))))
theorem sm_rest {g : GG} {h : Hp} {n z n' : Nat} {r r' : Nat → Int32} {T : Nat → Nat} (I : LI h n r T z n' r')  : Sm g mX4_rest mX5_rest [] h := by
  have S := I.1
  have hv := S.1
  have R := I.2.1
  have G := S.2.2
  have hn := G.1
  intro P C
  by_cases h8 : n ≤ 8
  · rcases least (fun b => ¬ w_rst r n b = 0) (2 ^ n) with ⟨m, m1, m2, m3⟩ | hne
    · have m3 : ∀ b, b < m → w_rst r n b = 0 := fun b hb => Classical.not_not.mp (m3 b hb)
      exact sp_X4_rest S h8 m1 m2 m3 (C _ _ (by first | exact hv | exact v1 | exact hv.of F1.1 | (show InvR _; rw [F1.2.1]; exact hv)) (fun P' K => sp_X5_rest hv R G h8 m1 m2 m3 (K _ I.le)))
    · have hne : ∀ b, b < 2 ^ n → w_rst r n b = 0 := fun b hb => Classical.not_not.mp (hne b hb)
      exact sp_X4_rest_n S h8 hne (C _ _ (by first | exact hv | exact v1 | exact hv.of F1.1 | (show InvR _; rw [F1.2.1]; exact hv)) (fun P' K => sp_X5_rest_n (show Inv (hfi h 3) from hv) (R.fr (uI_f (by decide))) G h8 hne (K _ (LE.fnd I (c := 3) (by decide)))))
  · have h8 : 8 < n := by omega
    exact sp_X4_rest_s S h8 (C _ _ (by first | exact hv | exact v1 | exact hv.of F1.1 | (show InvR _; rw [F1.2.1]; exact hv)) (fun P' K => sp_X5_rest_s (show Inv (hfi h 6) from hv) (R.fr (uI_f (by decide))) h8 (K _ (LE.fnd I (c := 6) (by decide)))))
