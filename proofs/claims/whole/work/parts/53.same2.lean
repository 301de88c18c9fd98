/-! ===== each call: the tape, the text, the sheets, the image, the counts ===== -/
/-- what stays where the tape may have changed -/
def FV (h h2 : Hp) : Prop := h2.2.2.2 = h.2.2.2 ∧ (∀ a, (a = 0 ∨ 26 ≤ a) → h2.2.2.1 a = h.2.2.1 a) ∧ (∀ a, (a = 0 ∨ 26 ≤ a) → a ≠ 38 → a ≠ 39 → a ≠ 49 → a ≠ 50 → a ≠ 51 → a ≠ 52 → a ≠ 53 → a ≠ 54 → a ≠ 55 → a ≠ 61 → h2.1 a = h.1 a) ∧ (∀ a, a ≠ 49 → a ≠ 59 → h2.2.1 a = h.2.1 a) ∧ h2.1 49 20 = h.1 49 20
theorem FV.e {h h2 : Hp} (X : FV h h2) (E : Shs h ∧ ShE h) : Shs h2 ∧ ShE h2 := by
  have e41 : ∀ s, s < 4 → h2.1 (41 + 2 * s) = h.1 (41 + 2 * s) := fun s hs => X.2.2.1 _ (by omega) (by omega) (by omega) (by omega) (by omega) (by omega) (by omega) (by omega) (by omega) (by omega) (by omega)
  have e56 := X.2.2.1 56 (by decide) (by decide) (by decide) (by decide) (by decide) (by decide) (by decide) (by decide) (by decide) (by decide) (by decide)
  have e57 := X.2.2.1 57 (by decide) (by decide) (by decide) (by decide) (by decide) (by decide) (by decide) (by decide) (by decide) (by decide) (by decide)
  have l58 := X.2.2.2.1 58 (by decide) (by decide)
  have l42 : ∀ s, s < 4 → h2.2.1 (42 + 2 * s) = h.2.1 (42 + 2 * s) := fun s hs => X.2.2.2.1 _ (by omega) (by omega)
  refine ⟨fun s hs => ?_, fun s hs => ?_⟩
  · show Wb (h2.1 (41 + 2 * s) 0) ∧ ∃ z, z ≤ 40 ∧ h2.1 (41 + 2 * s) 1 = nI z
    rw [e41 s hs]
    exact E.1 s hs
  · show h2.1 56 s = h2.1 (41 + 2 * s) 0 ∧ h2.1 57 s = h2.1 (41 + 2 * s) 1 ∧ ∀ j, j < 40 → h2.2.1 58 (40 * s + j) = h2.2.1 (42 + 2 * s) j
    rw [e41 s hs, e56, e57, l58, l42 s hs]
    exact E.2 s hs
theorem FV.k {h h2 : Hp} {n : Nat} {r : Nat → Int32} (X : FV h h2) (hv : Inv h) (K : Kp h n r) : Kp h2 n r := by
  obtain ⟨k1, k2, k3, k4, k5⟩ := K
  have e0 := X.2.2.1 0 (by decide) (by decide) (by decide) (by decide) (by decide) (by decide) (by decide) (by decide) (by decide) (by decide) (by decide)
  have e60 := X.2.2.1 60 (by decide) (by decide) (by decide) (by decide) (by decide) (by decide) (by decide) (by decide) (by decide) (by decide) (by decide)
  refine ⟨rep_at k1 hv (Or.inr (Or.inr rfl)) (fun a h1 h3 => X.2.2.1 a (by omega) (by omega) (by omega) (by omega) (by omega) (by omega) (by omega) (by omega) (by omega) (by omega) (by omega)) (X.2.1 27 (by decide)), k2, k3.fr e60, by show B01 (h2.1 0 4); rw [e0]; exact k4, ?_⟩
  show h2.1 0 4 = h2.1 49 20
  rw [e0, X.2.2.2.2]
  exact k5
/-- the tape has changed in both -/
theorem LE.tap {h h2 : Hp} {n z n' m y : Nat} {r r' q : Nat → Int32} {T U : Nat → Nat} (I : LI h n r T z n' r') (X : FV h h2) (S : Hs h2 m q) (R : RM 50 h2 m q) (C : Fq h2) (D : BT h2 U y ∧ MT h2 U y) : LE h2 := ⟨m, q, U, y, n', r', S, R, C, D, X.e I.2.2.2.2.1, X.k I.1.1 I.2.2.2.2.2⟩
/-- the sheets have changed in both -/
theorem LE.sht {h h2 : Hp} {n z n' : Nat} {r r' : Nat → Int32} {T : Nat → Nat} (I : LI h n r T z n' r') (e0 : h2.2.2 = h.2.2) (e1 : ∀ a, (a < 14 ∨ 26 ≤ a) → a ≠ 41 → a ≠ 43 → a ≠ 45 → a ≠ 47 → a ≠ 49 → a ≠ 50 → a ≠ 52 → a ≠ 53 → a ≠ 54 → a ≠ 56 → a ≠ 57 → h2.1 a = h.1 a) (e7 : h2.1 49 7 = h.1 49 7) (e20 : h2.1 49 20 = h.1 49 20) (R : RM 50 h2 n r) (E : Shs h2 ∧ ShE h2) : LE h2 := by
  obtain ⟨S, -, C, ⟨⟨b1, b2, b3, b4⟩, m1, m2, m3, m4⟩, -, k1, k2, k3, k4, k5⟩ := I
  have v2 : Inv h2 := by show InvR h2.2.2; rw [e0]; exact S.1
  have f : ∀ a, (a < 14 ∨ 26 ≤ a) → (a < 41 ∨ a = 51 ∨ a = 55 ∨ a = 60) → h2.1 a = h.1 a := fun a x y => e1 a x (by omega) (by omega) (by omega) (by omega) (by omega) (by omega) (by omega) (by omega) (by omega) (by omega) (by omega)
  refine ⟨n, r, T, z, n', r', ⟨v2, rep_at S.2.1 S.1 s2 (fun a x y => f a (by omega) (by omega)) (by rw [e0]), S.2.2⟩, R, C.s (f 1 (by decide) (by decide)) (f 51 (by decide) (by decide)), ⟨⟨b1, ?_, b3, fun i hi => ?_⟩, m1, e7.trans m2, m3, fun i hi => ?_⟩, E, rep_at k1 S.1 (Or.inr (Or.inr rfl)) (fun a x y => f a (by omega) (by omega)) (by rw [e0]), k2, k3.fr (f 60 (by decide) (by decide)), ?_, ?_⟩
  · show h2.1 38 1 = _; rw [f 38 (by decide) (by decide)]; exact b2
  · show h2.1 39 i = _; rw [f 39 (by decide) (by decide)]; exact b4 i hi
  · show h2.1 55 i = _; rw [f 55 (by decide) (by decide)]; exact m4 i hi
  · show B01 (h2.1 0 4); rw [f 0 (by decide) (by decide)]; exact k4
  · show h2.1 0 4 = h2.1 49 20; rw [f 0 (by decide) (by decide), e20]; exact k5
theorem sm_feed {g : GG} {h : Hp} {n z n' : Nat} {r r' : Nat → Int32} {T : Nat → Nat} (I : LI h n r T z n' r') (b v : Int32) : Sm g mX4_feed mX5_feed [.int b, .int v] h := by
  have S := I.1
  have hv := S.1
  have R := I.2.1
  have G := S.2.2
  have hn := G.1
  intro P C
  have D := I.2.2.2.1
  rcases in_or v 1 4 with hb | ⟨h1, h2⟩
  · exact sp_X4_feed_b hv b hb (C _ _ (by first | exact hv | exact v1 | exact hv.of F1.1 | (show InvR _; rw [F1.2.1]; exact hv)) (fun P' K => sp_X5_feed_b (show Inv (hfi h 0) from hv)  b hb (K _ (LE.fnd I (c := 0) (by decide)))))
  · by_cases hf : hI h 38 1 + v ≤ 120
    · obtain ⟨k, k1, k2, rfl⟩ := nat_of (a := 1) (b := 4) (by decide) h1 h2 (by decide)
      have hz0 := D.1.1
      have hz : z + k ≤ 120 := by
        rw [D.1.2.1, nI_pl (by omega), i_le, nI_toInt (by omega)] at hf
        have e : (120 : Int32).toInt = 120 := rfl
        omega
      refine sp_X4_feed hv b k1 k2 D.1.2.1 hz ?_
      have B1 := BT.feed (b := b) k D.1 hz
      have F1 := FC.feed (b := b) k h
      rw [B1.2.1]
      refine C _ _ (by first | exact hv | exact v1 | exact hv.of F1.1 | (show InvR _; rw [F1.2.1]; exact hv)) (fun P' K => ?_)
      have v1 : Inv (hfd b k h) := hv.of F1.1
      have M1 : MT (hfd b k h) T z := ⟨D.2.1, by show (hfd b k h).1 49 7 = _; rw [F1.2 49 (by decide) (by decide)]; exact D.2.2.1, D.2.2.2.1, fun i hi => by show (hfd b k h).1 55 i = _; rw [F1.2 55 (by decide) (by decide)]; exact D.2.2.2.2 i hi⟩
      refine sp_X5_feed v1 M1 b k1 k2 hz (fun h2 F2 M2 => K _ ?_)
      have e0 : h2.2 = h.2 := F2.1.trans F1.1
      have e1 : ∀ a, a ≠ 38 → a ≠ 39 → a ≠ 49 → a ≠ 55 → h2.1 a = h.1 a := fun a x y z w => (F2.2.1 a z w).trans (F1.2 a x y)
      have X2 : FV h h2 := ⟨by rw [e0], fun a _ => by rw [e0], fun a _ x y z _ _ _ _ _ w _ => e1 a x y z w, fun a _ _ => by rw [e0], F2.2.2.trans (by rw [F1.2 49 (by decide) (by decide)])⟩
      have B2 : BT h2 (fdT b k T z) (z + k) := ⟨B1.1, by show h2.1 38 1 = _; rw [F2.2.1 38 (by decide) (by decide)]; exact B1.2.1, B1.2.2.1, fun i hi => by show h2.1 39 i = _; rw [F2.2.1 39 (by decide) (by decide)]; exact B1.2.2.2 i hi⟩
      exact LE.tap I X2 ⟨hv.of e0, rep_at S.2.1 hv s2 (fun a x y => e1 a (by omega) (by omega) (by omega) (by omega)) (by rw [e0]), G⟩ (R.fr (e1 50 (by decide) (by decide) (by decide) (by decide))) (I.2.2.1.s (e1 1 (by decide) (by decide) (by decide) (by decide)) (e1 51 (by decide) (by decide) (by decide) (by decide))) ⟨B2, M2⟩
    · have hf2 : ¬ hI (hfi h 1) 49 7 + v ≤ 120 := by
        rw [show hI (hfi h 1) 49 7 = hI h 38 1 from (at_ua (by decide)).trans (D.2.2.1.trans D.1.2.1.symm)]
        exact hf
      exact sp_X4_feed_f hv b h1 h2 hf (C _ _ (by first | exact hv | exact v1 | exact hv.of F1.1 | (show InvR _; rw [F1.2.1]; exact hv)) (fun P' K => sp_X5_feed_f (show Inv (hfi h 1) from hv)  b h1 h2 hf2 (K _ (LE.fnd I (c := 1) (by decide)))))
theorem sm_wipe {g : GG} {h : Hp} {n z n' : Nat} {r r' : Nat → Int32} {T : Nat → Nat} (I : LI h n r T z n' r')  : Sm g mX4_wipe mX5_wipe [] h := by
  have S := I.1
  have hv := S.1
  have R := I.2.1
  have G := S.2.2
  have hn := G.1
  intro P C
  have D := I.2.2.2.1
  refine sp_X4_wipe hv ?_
  rw [D.1.2.1]
  refine C _ _ (by first | exact hv | exact v1 | exact hv.of F1.1 | (show InvR _; rw [F1.2.1]; exact hv)) (fun P' K => ?_)
  refine sp_X5_wipe (show Inv (uI h 38 1 0) from hv) ?_
  rw [show hI (uI h 38 1 0) 49 7 = nI z from (at_ua (by decide)).trans D.2.2.1]
  refine K _ ?_
  have e1 : ∀ a, a ≠ 38 → a ≠ 49 → (uI (uI h 38 1 0) 49 7 0).1 a = h.1 a := fun a x y => (uI_f y).trans (uI_f x)
  have X2 : FV h (uI (uI h 38 1 0) 49 7 0) := ⟨rfl, fun a _ => rfl, fun a _ x _ y _ _ _ _ _ _ _ => e1 a x y, fun a _ _ => rfl, (at_un (by decide)).trans (at_ua (by decide))⟩
  exact LE.tap (y := 0) (U := T) I X2 ⟨hv, rep_at S.2.1 hv s2 (fun a x y => e1 a (by omega) (by omega)) rfl, G⟩ (R.fr (e1 50 (by decide) (by decide))) (I.2.2.1.s (e1 1 (by decide) (by decide)) (e1 51 (by decide) (by decide))) ⟨⟨by decide, (at_ua (by decide)).trans at_uI, D.1.2.2.1, fun i hi => absurd hi (by omega)⟩, by decide, at_uI, D.1.2.2.1, fun i hi => absurd hi (by omega)⟩
theorem LE.sq {h h1 h2 : Hp} {n z n' m : Nat} {r r' q : Nat → Int32} {T : Nat → Nat} (I : LI h n r T z n' r') (F : FS h h1) (v1 : Inv h1) (e0 : hI h1 38 1 = 0) (Rc : Rep h1 2 m q) (G : RG q m) (Q : QS h1 h2) (R : RM 50 h2 m q) : LE h2 := by
  have e1 : ∀ a, (a < 2 ∨ 26 ≤ a) → a ≠ 38 → a ≠ 49 → a ≠ 50 → a ≠ 52 → a ≠ 53 → a ≠ 54 → a ≠ 61 → h2.1 a = h.1 a := fun a x y b1 b2 b3 b4 b5 b6 => (Q.2.1 a b1 b2 b3 b4 b5 b6).trans ((F.2.2 a x).2 y)
  have X2 : FV h h2 := ⟨(congrArg (·.2) Q.1).trans F.2.1, fun a ha => (congrFun (congrArg (·.1) Q.1) a).trans (F.2.2 a (by omega)).1, fun a ha x _ y1 y2 _ y3 y4 y5 _ y6 => e1 a (by omega) x y1 y2 y3 y4 y5 y6, fun a x y => (Q.2.2.1 a x y).trans (by rw [F.1]), Q.2.2.2.2.trans (congrFun ((F.2.2 49 (by decide)).2 (by decide)) 20)⟩
  have v2 : Inv h2 := by show InvR h2.2.2; rw [Q.1]; exact v1
  refine LE.tap (y := 0) (U := T) I X2 ⟨v2, rep_at Rc v1 s2 (fun a x y => Q.2.1 a (by omega) (by omega) (by omega) (by omega) (by omega) (by omega)) (by rw [Q.1]), G⟩ R (I.2.2.1.s (e1 1 (by decide) (by decide) (by decide) (by decide) (by decide) (by decide) (by decide) (by decide)) (e1 51 (by decide) (by decide) (by decide) (by decide) (by decide) (by decide) (by decide) (by decide))) ⟨⟨by decide, ?_, I.2.2.2.1.1.2.2.1, fun i hi => absurd hi (by omega)⟩, by decide, Q.2.2.2.1, I.2.2.2.1.1.2.2.1, fun i hi => absurd hi (by omega)⟩
  show h2.1 38 1 = nI 0
  rw [Q.2.1 38 (by decide) (by decide) (by decide) (by decide) (by decide) (by decide)]
  exact e0
theorem sm_square {g : GG} {h : Hp} {n z n' : Nat} {r r' : Nat → Int32} {T : Nat → Nat} (I : LI h n r T z n' r') (X : Gx g)  : Sm g mX4_square mX5_square [] h := by
  have S := I.1
  have hv := S.1
  have R := I.2.1
  have G := S.2.2
  have hn := G.1
  intro P C
  have D := I.2.2.2.1
  have GA := all_rg (T := T) D.1.1 120 1 0 n r (Nat.zero_le z) G
  have RM1 : ∀ h1, FS h h1 → RM 50 h1 n r ∧ MT h1 T z := fun h1 F1 => ⟨R.fr ((F1.2.2 50 (by decide)).2 (by decide)), D.2.1, by show h1.1 49 7 = _; rw [(F1.2.2 49 (by decide)).2 (by decide)]; exact D.2.2.1, D.2.2.2.1, fun i hi => by show h1.1 55 i = _; rw [(F1.2.2 55 (by decide)).2 (by decide)]; exact D.2.2.2.2 i hi⟩
  exact sp_X4_square S X D.1 (fun c h1 F1 v1 e1 R1 => C _ _ (by first | exact hv | exact v1 | exact hv.of F1.1 | (show InvR _; rw [F1.2.1]; exact hv)) (fun P' K => sp_X5_square v1 (RM1 h1 F1).1 (RM1 h1 F1).2 (fun _ h2 Q2 R2 => K _ (LE.sq I F1 v1 e1 R1 G Q2 R2)) (fun c' => absurd c c'))) (fun c h1 F1 v1 e1 R1 => C _ _ (by first | exact hv | exact v1 | exact hv.of F1.1 | (show InvR _; rw [F1.2.1]; exact hv)) (fun P' K => sp_X5_square v1 (RM1 h1 F1).1 (RM1 h1 F1).2 (fun c' => absurd c' c) (fun _ h2 Q2 R2 => K _ (LE.sq I F1 v1 e1 R1 GA Q2 R2))))
theorem sm_sheet {g : GG} {h : Hp} {n z n' : Nat} {r r' : Nat → Int32} {T : Nat → Nat} (I : LI h n r T z n' r') (v b k : Int32) : Sm g mX4_sheet mX5_sheet [.int v, .int b, .int k] h := by
  have S := I.1
  have hv := S.1
  have R := I.2.1
  have G := S.2.2
  have hn := G.1
  intro P C
  rcases sh_or v with hb | ⟨s, hs, rfl⟩
  · exact sp_X4_sheet_b hv v b k hb (C _ _ (by first | exact hv | exact v1 | exact hv.of F1.1 | (show InvR _; rw [F1.2.1]; exact hv)) (fun P' K => sp_X5_sheet_b (show Inv (hfi h 0) from hv)  v b k hb (K _ (LE.fnd I (c := 0) (by decide)))))
  · by_cases hb : Wb b
    · by_cases hk : k < 0
      · exact sp_X4_sheet_n hv hs hb hk (C _ _ (by first | exact hv | exact v1 | exact hv.of F1.1 | (show InvR _; rw [F1.2.1]; exact hv)) (fun P' K => sp_X5_sheet_n (show Inv (hfi h 6) from hv)  hs hb hk (K _ (LE.fnd I (c := 6) (by decide)))))
      · by_cases h40 : 40 < k
        · exact sp_X4_sheet_g hv hs hb hk h40 (C _ _ (by first | exact hv | exact v1 | exact hv.of F1.1 | (show InvR _; rw [F1.2.1]; exact hv)) (fun P' K => sp_X5_sheet_g (show Inv (hfi h 0) from hv)  hs hb hk h40 (K _ (LE.fnd I (c := 0) (by decide)))))
        · refine sp_X4_sheet hv hs hb hk h40 (C _ _ (by first | exact hv | exact v1 | exact hv.of F1.1 | (show InvR _; rw [F1.2.1]; exact hv)) (fun P' K => sp_X5_sheet (by exact hv) hs hb hk h40 (K _ ?_)))
          obtain ⟨ShI, ShQ⟩ := I.2.2.2.2.1
          obtain ⟨y, -, hy, ey⟩ := nat_of (a := 0) (b := 40) (by decide) hk h40 (by decide)
          have hy2 : ∃ w, w ≤ 40 ∧ (if b = 0 then (0 : Int32) else k) = nI w := by
            by_cases b0 : b = 0
            · exact ⟨0, by decide, by rw [if_pos b0]; rfl⟩
            · exact ⟨y, hy, by rw [if_neg b0]; exact ey⟩
          generalize (if b = 0 then (0 : Int32) else k) = w at hy2
          have i41 : ∀ s' k', s' < 4 → hI (zS (uI (uI (zL (uI (uI h (41 + 2 * s) 0 b) (41 + 2 * s) 1 w) (42 + 2 * s) 40) 56 s b) 57 s w) s 40) (41 + 2 * s') k' = hI (uI (uI h (41 + 2 * s) 0 b) (41 + 2 * s) 1 w) (41 + 2 * s') k' := fun s' k' h' => by
            show hI (uI (uI (zL (uI (uI h (41 + 2 * s) 0 b) (41 + 2 * s) 1 w) (42 + 2 * s) 40) 56 s b) 57 s w) (41 + 2 * s') k' = _
            rw [at_ua (by omega), at_ua (by omega)]
            rfl
          have i56 : ∀ s', hI (zS (uI (uI (zL (uI (uI h (41 + 2 * s) 0 b) (41 + 2 * s) 1 w) (42 + 2 * s) 40) 56 s b) 57 s w) s 40) 56 s' = if s' = s then b else hI h 56 s' := fun s' => by
            show hI (uI (uI (zL (uI (uI h (41 + 2 * s) 0 b) (41 + 2 * s) 1 w) (42 + 2 * s) 40) 56 s b) 57 s w) 56 s' = _
            rw [at_ua (by decide), at_uo]
            show (if s' = s then b else hI (uI (uI h (41 + 2 * s) 0 b) (41 + 2 * s) 1 w) 56 s') = _
            rw [at_ua (by omega), at_ua (by omega)]
          have i57 : ∀ s', hI (zS (uI (uI (zL (uI (uI h (41 + 2 * s) 0 b) (41 + 2 * s) 1 w) (42 + 2 * s) 40) 56 s b) 57 s w) s 40) 57 s' = if s' = s then w else hI h 57 s' := fun s' => by
            show hI (uI (uI (zL (uI (uI h (41 + 2 * s) 0 b) (41 + 2 * s) 1 w) (42 + 2 * s) 40) 56 s b) 57 s w) 57 s' = _
            rw [at_uo, at_ua (by decide)]
            show (if s' = s then w else hI (uI (uI h (41 + 2 * s) 0 b) (41 + 2 * s) 1 w) 57 s') = _
            rw [at_ua (by omega), at_ua (by omega)]
          have f1 : ∀ a, (∀ s', s' < 4 → a ≠ 41 + 2 * s') → a ≠ 56 → a ≠ 57 → (zS (uI (uI (zL (uI (uI h (41 + 2 * s) 0 b) (41 + 2 * s) 1 w) (42 + 2 * s) 40) 56 s b) 57 s w) s 40).1 a = h.1 a := fun a x y z => (uI_f z).trans ((uI_f y).trans ((uI_f (x s hs)).trans (uI_f (x s hs))))
          refine LE.sht I rfl (fun a _ a1 a2 a3 a4 _ _ _ _ _ x y => f1 a (fun s' h' => by omega) x y) (by rw [f1 49 (fun s' h' => by omega) (by decide) (by decide)]) (by rw [f1 49 (fun s' h' => by omega) (by decide) (by decide)]) (R.fr (f1 50 (fun s' h' => by omega) (by decide) (by decide))) ⟨fun s' h' => ?_, fun s' h' => ?_⟩
          · rw [i41 s' 0 h', i41 s' 1 h']
            by_cases e : s' = s
            · subst e
              rw [at_un (by decide), at_uI, at_uI]
              exact ⟨hb, hy2⟩
            · rw [at_ua (by omega), at_ua (by omega), at_ua (by omega), at_ua (by omega)]
              exact ShI s' h'
          · rw [i41 s' 0 h', i41 s' 1 h', i56, i57]
            by_cases e : s' = s
            · subst e
              rw [at_un (by decide), at_uI, at_uI, if_pos rfl, if_pos rfl]
              refine ⟨rfl, rfl, fun j hj => ?_⟩
              show (if 58 = 58 ∧ 40 * s' ≤ 40 * s' + j ∧ 40 * s' + j < 40 * s' + 40 then (0 : Int64) else _) = if 42 + 2 * s' = 58 ∧ _ then 0 else if 42 + 2 * s' = 42 + 2 * s' ∧ j < 40 then 0 else _
              rw [if_pos (by omega), if_neg (by omega), if_pos (by omega)]
            · rw [at_ua (by omega), at_ua (by omega), at_ua (by omega), at_ua (by omega), if_neg e, if_neg e]
              refine ⟨(ShQ s' h').1, (ShQ s' h').2.1, fun j hj => ?_⟩
              show (if 58 = 58 ∧ 40 * s ≤ 40 * s' + j ∧ 40 * s' + j < 40 * s + 40 then (0 : Int64) else if 58 = 42 + 2 * s ∧ 40 * s' + j < 40 then 0 else h.2.1 58 (40 * s' + j)) = if 42 + 2 * s' = 58 ∧ 40 * s ≤ j ∧ j < 40 * s + 40 then 0 else if 42 + 2 * s' = 42 + 2 * s ∧ j < 40 then 0 else h.2.1 (42 + 2 * s') j
              rw [if_neg (by omega), if_neg (by omega), if_neg (by omega), if_neg (by omega)]
              exact (ShQ s' h').2.2 j hj
    · exact sp_X4_sheet_w hv hs k hb (C _ _ (by first | exact hv | exact v1 | exact hv.of F1.1 | (show InvR _; rw [F1.2.1]; exact hv)) (fun P' K => sp_X5_sheet_w (show Inv (hfi h 0) from hv)  hs k hb (K _ (LE.fnd I (c := 0) (by decide)))))
theorem sm_write {g : GG} {h : Hp} {n z n' : Nat} {r r' : Nat → Int32} {T : Nat → Nat} (I : LI h n r T z n' r') (v i : Int32) (x : Int64) : SmL g mX4_write mX5_write [.int v, .int i, .long x] h := by
  have S := I.1
  have hv := S.1
  have R := I.2.1
  have G := S.2.2
  have hn := G.1
  intro P C
  rcases sh_or v with hb | ⟨s, hs, rfl⟩
  · exact sp_X4_write_b hv v i x hb (C _ _ (by first | exact hv | exact v1 | exact hv.of F1.1 | (show InvR _; rw [F1.2.1]; exact hv)) (fun P' K => sp_X5_write_b (show Inv (hfi h 0) from hv)  v i x hb (K _ (LE.fnd I (c := 0) (by decide)))))
  · obtain ⟨ShI, ShQ⟩ := I.2.2.2.2.1
    obtain ⟨sb1, y, hy, ey⟩ := ShI s hs
    obtain ⟨q56, q57, q58⟩ := ShQ s hs
    have q57y : hI h 57 s = nI y := q57.trans ey
    by_cases hm : hI h (41 + 2 * s) 0 = 0
    · exact sp_X4_write_m hv hs hm i x (C _ _ (by first | exact hv | exact v1 | exact hv.of F1.1 | (show InvR _; rw [F1.2.1]; exact hv)) (fun P' K => sp_X5_write_m (show Inv (hfi h 5) from hv) hs ((at_ua (by decide)).trans q56) hm i x (K _ (LE.fnd I (c := 5) (by decide)))))
    · by_cases i0 : i < 0
      · exact sp_X4_write_w hv hs hm i0 x (C _ _ (by first | exact hv | exact v1 | exact hv.of F1.1 | (show InvR _; rw [F1.2.1]; exact hv)) (fun P' K => sp_X5_write_w (show Inv (hfi h 0) from hv) hs ((at_ua (by decide)).trans q56) hm hy ((at_ua (by decide)).trans q57y) (Or.inl i0) x (K _ (LE.fnd I (c := 0) (by decide)))))
      · by_cases i1 : nI y ≤ i
        · exact sp_X4_write_v hv hs hm i0 (by rw [ey]; exact i1) x (C _ _ (by first | exact hv | exact v1 | exact hv.of F1.1 | (show InvR _; rw [F1.2.1]; exact hv)) (fun P' K => sp_X5_write_w (show Inv (hfi h 0) from hv) hs ((at_ua (by decide)).trans q56) hm hy ((at_ua (by decide)).trans q57y) (Or.inr i1) x (K _ (LE.fnd I (c := 0) (by decide)))))
        · obtain ⟨i', hi', rfl⟩ : ∃ i' : Nat, i' < y ∧ i = nI i' := by
            have i1 := i_nle.mp i1
            rw [i_lt, nI_toInt (by omega)] at i1
            rw [i_lt] at i0
            have e0 : (0 : Int32).toInt = 0 := rfl
            exact ⟨i.toInt.toNat, by omega, by rw [i_eq, nI_toInt (by omega)]; omega⟩
          refine sp_X4_write hv hs hm sb1 (show i' < 40 by omega) (by rw [ey]; exact nI_lt hi' (by omega)) x (C _ _ (by first | exact hv | exact v1 | exact hv.of F1.1 | (show InvR _; rw [F1.2.1]; exact hv)) (fun P' K => ?_))
          have K2 : ∀ w, w = hL h (42 + 2 * s) i' → Sp g mX5_write [.ref 49, .int (nI s), .int (nI i'), .long x] (uL h (42 + 2 * s) i' (w_nar (hI h (41 + 2 * s) 0) x)) P' := fun w ew => by
            refine sp_X5_write (show Inv (uL h (42 + 2 * s) i' (w_nar (hI h (41 + 2 * s) 0) x)) from hv) hs (b := hI h (41 + 2 * s) 0) q56 hm hy q57y hi' x ?_
            rw [show hL (uL h (42 + 2 * s) i' (w_nar (hI h (41 + 2 * s) 0) x)) 58 (40 * s + i') = hL h (42 + 2 * s) i' from (if_neg (fun z => by have := z.1; omega)).trans (q58 i' (by omega))]
            refine K _ ?_
            generalize w_nar (hI h (41 + 2 * s) 0) x = u
            refine LE.sht I rfl (fun a _ _ _ _ _ _ _ _ _ _ _ _ => rfl) rfl rfl R ⟨ShI, fun s' h' => ⟨(ShQ s' h').1, (ShQ s' h').2.1, fun j hj => ?_⟩⟩
            show (if 58 = 58 ∧ 40 * s' + j = 40 * s + i' then u else if 58 = 42 + 2 * s ∧ 40 * s' + j = i' then u else h.2.1 58 (40 * s' + j)) = if 42 + 2 * s' = 58 ∧ j = 40 * s + i' then u else if 42 + 2 * s' = 42 + 2 * s ∧ j = i' then u else h.2.1 (42 + 2 * s') j
            by_cases e : s' = s ∧ j = i'
            · rw [if_pos (by omega), if_neg (by omega), if_pos (by omega)]
            · rw [if_neg (by omega), if_neg (by omega), if_neg (by omega), if_neg (by omega)]
              exact (ShQ s' h').2.2 j hj
          exact K2 _ rfl
theorem sm_copy {g : GG} {h : Hp} {n z n' : Nat} {r r' : Nat → Int32} {T : Nat → Nat} (I : LI h n r T z n' r') (v f t o k : Int32) : Sm g mX4_copy mX5_copy [.int v, .int f, .int t, .int o, .int k] h := by
  have S := I.1
  have hv := S.1
  have R := I.2.1
  have G := S.2.2
  have hn := G.1
  intro P C
  rcases sh_or v with hb | ⟨s, hs, rfl⟩
  · exact sp_X4_copy_b hv v f t o k hb (C _ _ (by first | exact hv | exact v1 | exact hv.of F1.1 | (show InvR _; rw [F1.2.1]; exact hv)) (fun P' K => sp_X5_copy_b (show Inv (hfi h 0) from hv)  v f t o k hb (K _ (LE.fnd I (c := 0) (by decide)))))
  · rcases sh_or t with hb | ⟨t', ht, rfl⟩
    · exact sp_X4_copy_c hv hs f o k hb (C _ _ (by first | exact hv | exact v1 | exact hv.of F1.1 | (show InvR _; rw [F1.2.1]; exact hv)) (fun P' K => sp_X5_copy_c (show Inv (hfi h 0) from hv)  hs f o k hb (K _ (LE.fnd I (c := 0) (by decide)))))
    · obtain ⟨ShI, ShQ⟩ := I.2.2.2.2.1
      obtain ⟨sb1, y, hy, ey⟩ := ShI s hs
      obtain ⟨q56, q57, q58⟩ := ShQ s hs
      obtain ⟨sb2, y2, hy2, ey2⟩ := ShI t' ht
      obtain ⟨p56, p57, p58⟩ := ShQ t' ht
      have q57y : hI h 57 s = nI y := q57.trans ey
      have p57y : hI h 57 t' = nI y2 := p57.trans ey2
      by_cases hm : hI h (41 + 2 * s) 0 = 0
      · exact sp_X4_copy_m hv hs ht f o k hm (C _ _ (by first | exact hv | exact v1 | exact hv.of F1.1 | (show InvR _; rw [F1.2.1]; exact hv)) (fun P' K => sp_X5_copy_m (show Inv (hfi h 5) from hv) hs ht ((at_ua (by decide)).trans q56) ((at_ua (by decide)).trans p56) f o k hm (K _ (LE.fnd I (c := 5) (by decide)))))
      · by_cases hm2 : hI h (41 + 2 * t') 0 = 0
        · exact sp_X4_copy_n hv hs ht f o k hm hm2 (C _ _ (by first | exact hv | exact v1 | exact hv.of F1.1 | (show InvR _; rw [F1.2.1]; exact hv)) (fun P' K => sp_X5_copy_n (show Inv (hfi h 5) from hv) hs ht ((at_ua (by decide)).trans q56) ((at_ua (by decide)).trans p56) f o k hm hm2 (K _ (LE.fnd I (c := 5) (by decide)))))
        · by_cases hk : hI h (41 + 2 * s) 0 = hI h (41 + 2 * t') 0
          · rcases part_or hy f k with hp | ⟨f', k', rfl, rfl, hp⟩
            · exact sp_X4_copy_p hv hs ht f o k hm hm2 hk (by rw [ey]; exact hp) (C _ _ (by first | exact hv | exact v1 | exact hv.of F1.1 | (show InvR _; rw [F1.2.1]; exact hv)) (fun P' K => sp_X5_copy_p (show Inv (hfi h 0) from hv) hs ht ((at_ua (by decide)).trans q56) ((at_ua (by decide)).trans p56) hy hy2 ((at_ua (by decide)).trans q57y) ((at_ua (by decide)).trans p57y) f o k hm hm2 hk hp (K _ (LE.fnd I (c := 0) (by decide)))))
            · rcases part_or hy2 o (nI k') with hq | ⟨o', k2, rfl, e2, hq⟩
              · exact sp_X4_copy_q hv hs ht (nI f') o (nI k') hm hm2 hk (by rw [ey]; exact part_ok hy hp) (by rw [ey2]; exact hq) (C _ _ (by first | exact hv | exact v1 | exact hv.of F1.1 | (show InvR _; rw [F1.2.1]; exact hv)) (fun P' K => sp_X5_copy_q (show Inv (hfi h 0) from hv) hs ht ((at_ua (by decide)).trans q56) ((at_ua (by decide)).trans p56) hy hy2 ((at_ua (by decide)).trans q57y) ((at_ua (by decide)).trans p57y) (nI f') o (nI k') hm hm2 hk (part_ok hy hp) hq (K _ (LE.fnd I (c := 0) (by decide)))))
              · have ek : k2 = k' := ((nI_inj2 (by omega) (by omega)).mp e2).symm
                subst ek
                refine sp_X4_copy hv hs ht hm hm2 hk ey ey2 hy hy2 hp hq (C _ _ (by first | exact hv | exact v1 | exact hv.of F1.1 | (show InvR _; rw [F1.2.1]; exact hv)) (fun P' K => ?_))
                refine sp_X5_copy (show Inv (cpL h (42 + 2 * s) f' (42 + 2 * t') o' k2) from hv) hs ht (b := hI h (41 + 2 * s) 0) (c := hI h (41 + 2 * t') 0) q56 p56 hy hy2 q57y p57y hm hm2 hk hp hq (K _ ?_)
                refine LE.sht I rfl (fun a _ _ _ _ _ _ _ _ _ _ _ _ => rfl) rfl rfl R ⟨ShI, fun s' h' => ⟨(ShQ s' h').1, (ShQ s' h').2.1, fun j hj => ?_⟩⟩
                have e58 : ∀ i, hL (cpL h (42 + 2 * s) f' (42 + 2 * t') o' k2) 58 i = hL h 58 i := fun i => if_neg (fun z => by have := z.1; omega)
                show (if 58 = 58 ∧ 40 * t' + o' ≤ 40 * s' + j ∧ 40 * s' + j < 40 * t' + o' + k2 then (if 59 = 59 ∧ 40 * s' + j - (40 * t' + o') < k2 then hL (cpL h (42 + 2 * s) f' (42 + 2 * t') o' k2) 58 (40 * s + f' + (40 * s' + j - (40 * t' + o'))) else hL (cpL h (42 + 2 * s) f' (42 + 2 * t') o' k2) 59 (40 * s' + j - (40 * t' + o'))) else if 58 = 59 ∧ 40 * s' + j < k2 then hL (cpL h (42 + 2 * s) f' (42 + 2 * t') o' k2) 58 (40 * s + f' + (40 * s' + j)) else hL (cpL h (42 + 2 * s) f' (42 + 2 * t') o' k2) 58 (40 * s' + j)) = if 42 + 2 * s' = 58 ∧ 40 * t' + o' ≤ j ∧ j < 40 * t' + o' + k2 then _ else if 42 + 2 * s' = 59 ∧ j < k2 then _ else if 42 + 2 * s' = 42 + 2 * t' ∧ o' ≤ j ∧ j < o' + k2 then hL h (42 + 2 * s) (f' + (j - o')) else hL h (42 + 2 * s') j
                rw [e58, e58]
                by_cases e : s' = t' ∧ o' ≤ j ∧ j < o' + k2
                · rw [if_pos (by omega), if_pos (by omega), if_neg (by omega), if_neg (by omega), if_pos (by omega), show 40 * s + f' + (40 * s' + j - (40 * t' + o')) = 40 * s + (f' + (j - o')) by omega]
                  exact q58 _ (by omega)
                · rw [if_neg (by omega), if_neg (by omega), if_neg (by omega), if_neg (by omega), if_neg (by omega)]
                  exact (e58 _).trans ((ShQ s' h').2.2 j hj)
          · exact sp_X4_copy_k hv hs ht f o k hm hm2 hk (C _ _ (by first | exact hv | exact v1 | exact hv.of F1.1 | (show InvR _; rw [F1.2.1]; exact hv)) (fun P' K => sp_X5_copy_k (show Inv (hfi h 2) from hv) hs ht ((at_ua (by decide)).trans q56) ((at_ua (by decide)).trans p56) f o k hm hm2 hk (K _ (LE.fnd I (c := 2) (by decide)))))
theorem sm_lays {g : GG} {h : Hp} {n z n' : Nat} {r r' : Nat → Int32} {T : Nat → Nat} (I : LI h n r T z n' r') (v : Int32) : Sm g mX4_lays mX5_lays [.int v] h := by
  have S := I.1
  have hv := S.1
  have R := I.2.1
  have G := S.2.2
  have hn := G.1
  intro P C
  rcases sh_or v with hb | ⟨s, hs, rfl⟩
  · exact sp_X4_lays_b hv v hb (C _ _ (by first | exact hv | exact v1 | exact hv.of F1.1 | (show InvR _; rw [F1.2.1]; exact hv)) (fun P' K => sp_X5_lays_b (show Inv (hfi h 0) from hv)  v hb (K _ (LE.fnd I (c := 0) (by decide)))))
  · obtain ⟨ShI, ShQ⟩ := I.2.2.2.2.1
    obtain ⟨sb1, y, hy, ey⟩ := ShI s hs
    obtain ⟨q56, q57, q58⟩ := ShQ s hs
    have q57y : hI h 57 s = nI y := q57.trans ey
    by_cases hm : hI h (41 + 2 * s) 0 = 0
    · exact sp_X4_lays_m hv hs hm (C _ _ (by first | exact hv | exact v1 | exact hv.of F1.1 | (show InvR _; rw [F1.2.1]; exact hv)) (fun P' K => sp_X5_lays_m (show Inv (hfi h 5) from hv) hs ((at_ua (by decide)).trans q56) hm (K _ (LE.fnd I (c := 5) (by decide)))))
    · refine sp_X4_lays S hs hm hy ey (fun h1 F1 R1 => C _ _ (by first | exact hv | exact v1 | exact hv.of F1.1 | (show InvR _; rw [F1.2.1]; exact hv)) (fun P' K => ?_))
      have c1 : ∀ a, (a < 2 ∨ 14 ≤ a) → h1.1 a = h.1 a := F1.2
      refine sp_X5_lays (hv.of F1.1) (R.c F1.fr.c2) hs (b := hI h (41 + 2 * s) 0) ((congrFun (c1 56 (by decide)) s).trans q56) hm hy ((congrFun (c1 57 (by decide)) s).trans q57y) (L := hL h (42 + 2 * s)) (fun j hj => by rw [show hL h1 = hL h from congrArg (·.1) F1.1]; exact q58 j hj) (fun h2 M2 R2 => K _ ?_)
      exact LE.row I F1.fr.c2 (hv.of F1.1) R1 (G.lays _) M2.qm.ql R2
theorem sm_book {g : GG} {h : Hp} {n z n' : Nat} {r r' : Nat → Int32} {T : Nat → Nat} (I : LI h n r T z n' r') (v : Int32) : Sm g mX4_book mX5_book [.int v] h := by
  have S := I.1
  have hv := S.1
  have R := I.2.1
  have G := S.2.2
  have hn := G.1
  intro P C
  rcases sh_or v with hb | ⟨s, hs, rfl⟩
  · exact sp_X4_book_b hv v hb (C _ _ (by first | exact hv | exact v1 | exact hv.of F1.1 | (show InvR _; rw [F1.2.1]; exact hv)) (fun P' K => sp_X5_book_b (show Inv (hfi h 0) from hv)  v hb (K _ (LE.fnd I (c := 0) (by decide)))))
  · obtain ⟨ShI, ShQ⟩ := I.2.2.2.2.1
    obtain ⟨sb1, y, hy, ey⟩ := ShI s hs
    obtain ⟨q56, q57, q58⟩ := ShQ s hs
    have q57y : hI h 57 s = nI y := q57.trans ey
    by_cases hm : hI h (41 + 2 * s) 0 = 0
    · exact sp_X4_book_m hv hs hm (C _ _ (by first | exact hv | exact v1 | exact hv.of F1.1 | (show InvR _; rw [F1.2.1]; exact hv)) (fun P' K => sp_X5_book_m (show Inv (hfi h 5) from hv) hs ((at_ua (by decide)).trans q56) hm (K _ (LE.fnd I (c := 5) (by decide)))))
    · by_cases hh : r 5 ≤ 9959
      · refine sp_X4_book S hs hm sb1 hy ey hh (fun h1 F1 => C _ _ (by first | exact hv | exact v1 | exact hv.of F1.1 | (show InvR _; rw [F1.2.1]; exact hv)) (fun P' K => ?_))
        have v1 : Inv h1 := by show InvR h1.2.2; rw [F1.2.1]; exact hv
        have c1 : ∀ a, (a < 14 ∨ 26 ≤ a) → h1.1 a = h.1 a := F1.1
        refine sp_X5_book v1 (R.fr (c1 50 (by decide))) G hs (b := hI h (41 + 2 * s) 0) ((congrFun (c1 56 (by decide)) s).trans q56) hm hy ((congrFun (c1 57 (by decide)) s).trans q57y) hh (fun h2 F2 R2 => K _ ?_)
        have c2 : ∀ a, (a < 14 ∨ 26 ≤ a) → a ≠ 49 → a ≠ 50 → a ≠ 52 → a ≠ 53 → a ≠ 54 → h2.1 a = h.1 a := fun a x y1 y2 y3 y4 y5 => (F2.2.1 a y1 y2 y3 y4 y5).trans (c1 a x)
        refine LE.sht I (F2.1.trans F1.2.1) (fun a x _ _ _ _ y1 y2 y3 y4 y5 _ _ => c2 a x y1 y2 y3 y4 y5) (F2.2.2.2.1.trans (by rw [c1 49 (by decide)])) (F2.2.2.2.2.trans (by rw [c1 49 (by decide)])) R2 ⟨fun s' h' => ?_, fun s' h' => ?_⟩
        · show Wb (h2.1 (41 + 2 * s') 0) ∧ ∃ z, z ≤ 40 ∧ h2.1 (41 + 2 * s') 1 = nI z
          rw [c2 _ (by omega) (by omega) (by omega) (by omega) (by omega) (by omega)]
          exact ShI s' h'
        · refine ⟨?_, ?_, fun j hj => ?_⟩
          · show h2.1 56 s' = h2.1 (41 + 2 * s') 0
            rw [c2 56 (by decide) (by decide) (by decide) (by decide) (by decide) (by decide), c2 _ (by omega) (by omega) (by omega) (by omega) (by omega) (by omega)]
            exact (ShQ s' h').1
          · show h2.1 57 s' = h2.1 (41 + 2 * s') 1
            rw [c2 57 (by decide) (by decide) (by decide) (by decide) (by decide) (by decide), c2 _ (by omega) (by omega) (by omega) (by omega) (by omega) (by omega)]
            exact (ShQ s' h').2.1
          · rw [F2.2.2.1, F2.2.2.1, F1.2.2, F1.2.2]
            by_cases e : s' = s ∧ j < y
            · rw [if_pos (by omega), if_neg (by omega), if_pos (by omega), show 40 * s' + j - 40 * s = j by omega]
            · rw [if_neg (by omega), if_neg (by omega), if_neg (by omega), if_neg (by omega)]
              exact (ShQ s' h').2.2 j hj
      · exact sp_X4_book_s S hs hm hh (C _ _ (by first | exact hv | exact v1 | exact hv.of F1.1 | (show InvR _; rw [F1.2.1]; exact hv)) (fun P' K => sp_X5_book_s (show Inv (hfi h 4) from hv) (R.fr (uI_f (by decide))) hs ((at_ua (by decide)).trans q56) hm hh (K _ (LE.fnd I (c := 4) (by decide)))))
theorem sm_read {g : GG} {h : Hp} {n z n' : Nat} {r r' : Nat → Int32} {T : Nat → Nat} (I : LI h n r T z n' r') (v k : Int32) : Sm g mX4_read mX5_read [.int v, .int k] h := by
  have S := I.1
  have hv := S.1
  have R := I.2.1
  have G := S.2.2
  have hn := G.1
  intro P C
  rcases sh_or v with hb | ⟨s, hs, rfl⟩
  · exact sp_X4_read_b hv v k hb (C _ _ (by first | exact hv | exact v1 | exact hv.of F1.1 | (show InvR _; rw [F1.2.1]; exact hv)) (fun P' K => sp_X5_read_b (show Inv (hfi h 0) from hv)  v k hb (K _ (LE.fnd I (c := 0) (by decide)))))
  · obtain ⟨ShI, ShQ⟩ := I.2.2.2.2.1
    obtain ⟨sb1, y, hy, ey⟩ := ShI s hs
    obtain ⟨q56, q57, q58⟩ := ShQ s hs
    have q57y : hI h 57 s = nI y := q57.trans ey
    by_cases hm : hI h (41 + 2 * s) 0 = 0
    · exact sp_X4_read_m hv hs k hm (C _ _ (by first | exact hv | exact v1 | exact hv.of F1.1 | (show InvR _; rw [F1.2.1]; exact hv)) (fun P' K => sp_X5_read_m (show Inv (hfi h 5) from hv) hs ((at_ua (by decide)).trans q56) k hm (K _ (LE.fnd I (c := 5) (by decide)))))
    · rcases in_or k 0 99 with hb | ⟨h1, h2⟩
      · exact sp_X4_read_w hv hs hm hb (C _ _ (by first | exact hv | exact v1 | exact hv.of F1.1 | (show InvR _; rw [F1.2.1]; exact hv)) (fun P' K => sp_X5_read_w (show Inv (hfi h 0) from hv) hs ((at_ua (by decide)).trans q56) hm hb (K _ (LE.fnd I (c := 0) (by decide)))))
      · exact sp_X4_read S hs hm hy ey h1 h2 (C _ _ (by first | exact hv | exact v1 | exact hv.of F1.1 | (show InvR _; rw [F1.2.1]; exact hv)) (fun P' K => sp_X5_read hv R hs hy q57y (L := hL h (42 + 2 * s)) q58 q56 hm h1 h2 (K _ I.le)))
theorem sm_image {g : GG} {h : Hp} {n z n' : Nat} {r r' : Nat → Int32} {T : Nat → Nat} (I : LI h n r T z n' r')  : Sm g mX4_image mX5_image [] h := by
  have S := I.1
  have hv := S.1
  have R := I.2.1
  have G := S.2.2
  have hn := G.1
  intro P C
  refine sp_X4_image S (fun h1 F1 R1 => C _ _ (by first | exact hv | exact v1 | exact hv.of F1.1 | (show InvR _; rw [F1.2.1]; exact hv)) (fun P' K => ?_))
  have v1 : Inv h1 := hv.of F1.1
  refine sp_X5_image (show Inv (uI h1 0 4 1) from v1) (K _ ?_)
  have e1 : ∀ a, (a < 26 ∨ 38 ≤ a) → a ≠ 0 → a ≠ 49 → a ≠ 60 → (uI (cpI (uI h1 0 4 1) 50 60 77) 49 20 1).1 a = h.1 a := fun a x y1 y2 y3 => (uI_f y2).trans ((cpI_f y3).trans ((uI_f y1).trans (F1.2 a (by omega))))
  have R50 : RM 50 (uI h1 0 4 1) n r := R.fr ((uI_f (by decide)).trans (F1.2 50 (by decide)))
  have D := I.2.2.2.1
  have E := I.2.2.2.2.1
  have e7 : (uI (cpI (uI h1 0 4 1) 50 60 77) 49 20 1).1 49 7 = h.1 49 7 := (at_un (by decide)).trans ((cpI_o (by decide)).trans ((at_ua (by decide)).trans (congrFun (F1.2 49 (by decide)) 7)))
  have e2 : (uI (cpI (uI h1 0 4 1) 50 60 77) 49 20 1).2 = h.2 := F1.1
  refine ⟨n, r, T, z, n, r, ⟨v1, rep_at S.2.1 hv s2 (fun a x y => e1 a (by omega) (by omega) (by omega) (by omega)) (by rw [e2]), G⟩, R.fr (e1 50 (by decide) (by decide) (by decide) (by decide)), I.2.2.1.s (e1 1 (by decide) (by decide) (by decide) (by decide)) (e1 51 (by decide) (by decide) (by decide) (by decide)), ⟨⟨D.1.1, ?_, D.1.2.2.1, fun i hi => ?_⟩, D.2.1, e7.trans D.2.2.1, D.2.2.2.1, fun i hi => ?_⟩, ⟨fun s hs => ?_, fun s hs => ?_⟩, ?_, G, (RM.cp (d := 60) R50).fr (uI_f (by decide)), ?_, ?_⟩
  · show (uI (cpI (uI h1 0 4 1) 50 60 77) 49 20 1).1 38 1 = _; rw [e1 38 (by decide) (by decide) (by decide) (by decide)]; exact D.1.2.1
  · show (uI (cpI (uI h1 0 4 1) 50 60 77) 49 20 1).1 39 i = _; rw [e1 39 (by decide) (by decide) (by decide) (by decide)]; exact D.1.2.2.2 i hi
  · show (uI (cpI (uI h1 0 4 1) 50 60 77) 49 20 1).1 55 i = _; rw [e1 55 (by decide) (by decide) (by decide) (by decide)]; exact D.2.2.2.2 i hi
  · show Wb ((uI (cpI (uI h1 0 4 1) 50 60 77) 49 20 1).1 (41 + 2 * s) 0) ∧ ∃ z, z ≤ 40 ∧ (uI (cpI (uI h1 0 4 1) 50 60 77) 49 20 1).1 (41 + 2 * s) 1 = nI z
    rw [e1 _ (by omega) (by omega) (by omega) (by omega)]
    exact E.1 s hs
  · show (uI (cpI (uI h1 0 4 1) 50 60 77) 49 20 1).1 56 s = (uI (cpI (uI h1 0 4 1) 50 60 77) 49 20 1).1 (41 + 2 * s) 0 ∧ (uI (cpI (uI h1 0 4 1) 50 60 77) 49 20 1).1 57 s = (uI (cpI (uI h1 0 4 1) 50 60 77) 49 20 1).1 (41 + 2 * s) 1 ∧ ∀ j, j < 40 → (uI (cpI (uI h1 0 4 1) 50 60 77) 49 20 1).2.1 58 (40 * s + j) = (uI (cpI (uI h1 0 4 1) 50 60 77) 49 20 1).2.1 (42 + 2 * s) j
    rw [e1 56 (by decide) (by decide) (by decide) (by decide), e1 57 (by decide) (by decide) (by decide) (by decide), e1 (41 + 2 * s) (by omega) (by omega) (by omega) (by omega), e2]
    exact E.2 s hs
  · exact rep_at R1 v1 (Or.inr (Or.inr rfl)) (fun a x y => (uI_f (by omega)).trans ((cpI_f (by omega)).trans (uI_f (by omega)))) rfl
  · rw [show hI (uI (cpI (uI h1 0 4 1) 50 60 77) 49 20 1) 0 4 = 1 from (at_ua (by decide)).trans ((cpI_o (by decide)).trans at_uI)]; exact Or.inr rfl
  · exact ((at_ua (by decide)).trans ((cpI_o (by decide)).trans at_uI)).trans at_uI.symm
theorem sm_undo {g : GG} {h : Hp} {n z n' : Nat} {r r' : Nat → Int32} {T : Nat → Nat} (I : LI h n r T z n' r')  : Sm g mX4_undo mX5_undo [] h := by
  have S := I.1
  have hv := S.1
  have R := I.2.1
  have G := S.2.2
  have hn := G.1
  intro P C
  obtain ⟨k1, k2, k3, k4, k5⟩ := I.2.2.2.2.2
  by_cases hk : hI h 0 4 = 0
  · exact sp_X4_undo_n hv hk (C _ _ (by first | exact hv | exact v1 | exact hv.of F1.1 | (show InvR _; rw [F1.2.1]; exact hv)) (fun P' K => sp_X5_undo_n (show Inv (hfi h 3) from hv) ((at_ua (by decide)).trans (k5.symm.trans hk)) (K _ (LE.fnd I (c := 3) (by decide)))))
  · refine sp_X4_undo hv hk k1 k2.2.2.2.1 (fun h1 F1 R1 => C _ _ (by first | exact hv | exact v1 | exact hv.of F1.1 | (show InvR _; rw [F1.2.1]; exact hv)) (fun P' K => ?_))
    have R60 : RM 60 h1 n' r' := k3.fr (F1.2 60 (by decide))
    refine sp_X5_undo (hv.of F1.1) (fun e => hk (k5.trans ((congrFun (F1.2 49 (by decide)) 20).symm.trans e))) R60 (K _ ?_)
    exact LE.row I F1.fr.c2 (hv.of F1.1) R1 k2 (QL.cp (Or.inl rfl)) R60.cp
theorem sm_tear {g : GG} {h : Hp} {n z n' : Nat} {r r' : Nat → Int32} {T : Nat → Nat} (I : LI h n r T z n' r')  : Sm g mX4_tear mX5_tear [] h := by
  have S := I.1
  have hv := S.1
  have R := I.2.1
  have G := S.2.2
  have hn := G.1
  intro P C
  obtain ⟨k1, k2, k3, k4, k5⟩ := I.2.2.2.2.2
  refine sp_X4_tear hv k4 (C _ _ (by first | exact hv | exact v1 | exact hv.of F1.1 | (show InvR _; rw [F1.2.1]; exact hv)) (fun P' K => ?_))
  have eK : hI (uI h 0 4 0) 49 20 = hI h 0 4 := (at_ua (by decide)).trans k5.symm
  refine sp_X5_tear (show Inv (uI h 0 4 0) from hv) (by rw [eK]; exact k4) ?_
  rw [eK]
  refine K _ ?_
  have e1 : ∀ a, a ≠ 0 → a ≠ 49 → (uI (uI h 0 4 0) 49 20 0).1 a = h.1 a := fun a x y => (uI_f y).trans (uI_f x)
  have D := I.2.2.2.1
  have E := I.2.2.2.2.1
  refine ⟨n, r, T, z, n', r', ⟨hv, rep_at S.2.1 hv s2 (fun a x y => e1 a (by omega) (by omega)) rfl, G⟩, R.fr (e1 50 (by decide) (by decide)), I.2.2.1.s (e1 1 (by decide) (by decide)) (e1 51 (by decide) (by decide)), ⟨⟨D.1.1, ?_, D.1.2.2.1, fun i hi => ?_⟩, D.2.1, ((at_un (by decide)).trans (at_ua (by decide))).trans D.2.2.1, D.2.2.2.1, fun i hi => ?_⟩, ⟨fun s hs => ?_, fun s hs => ?_⟩, rep_at k1 hv (Or.inr (Or.inr rfl)) (fun a x y => e1 a (by omega) (by omega)) rfl, k2, k3.fr (e1 60 (by decide) (by decide)), ?_, ?_⟩
  · show (uI (uI h 0 4 0) 49 20 0).1 38 1 = _; rw [e1 38 (by decide) (by decide)]; exact D.1.2.1
  · show (uI (uI h 0 4 0) 49 20 0).1 39 i = _; rw [e1 39 (by decide) (by decide)]; exact D.1.2.2.2 i hi
  · show (uI (uI h 0 4 0) 49 20 0).1 55 i = _; rw [e1 55 (by decide) (by decide)]; exact D.2.2.2.2 i hi
  · show Wb ((uI (uI h 0 4 0) 49 20 0).1 (41 + 2 * s) 0) ∧ ∃ z, z ≤ 40 ∧ (uI (uI h 0 4 0) 49 20 0).1 (41 + 2 * s) 1 = nI z
    rw [e1 _ (by omega) (by omega)]
    exact E.1 s hs
  · show (uI (uI h 0 4 0) 49 20 0).1 56 s = (uI (uI h 0 4 0) 49 20 0).1 (41 + 2 * s) 0 ∧ (uI (uI h 0 4 0) 49 20 0).1 57 s = (uI (uI h 0 4 0) 49 20 0).1 (41 + 2 * s) 1 ∧ ∀ j, j < 40 → h.2.1 58 (40 * s + j) = h.2.1 (42 + 2 * s) j
    rw [e1 56 (by decide) (by decide), e1 57 (by decide) (by decide), e1 (41 + 2 * s) (by omega) (by omega)]
    exact E.2 s hs
  · rw [show hI (uI (uI h 0 4 0) 49 20 0) 0 4 = 0 from (at_ua (by decide)).trans at_uI]; exact Or.inl rfl
  · exact ((at_ua (by decide)).trans at_uI).trans at_uI.symm
theorem sm_count {g : GG} {h : Hp} {n z n' : Nat} {r r' : Nat → Int32} {T : Nat → Nat} (I : LI h n r T z n' r') (w : Int32) : Sm g mX4_count mX5_count [.int w] h := by
  have S := I.1
  have hv := S.1
  have R := I.2.1
  have G := S.2.2
  have hn := G.1
  intro P C
  have D := I.2.2.2.1
  rcases sw_of w 4 (by decide) with ⟨w', hw, rfl⟩ | e | e
  · refine sp_X4_count S hw (C _ _ (by first | exact hv | exact v1 | exact hv.of F1.1 | (show InvR _; rw [F1.2.1]; exact hv)) (fun P' K => ?_))
    refine sp_X5_count hv R hw ?_
    rw [D.2.2.1, ← D.1.2.1]
    exact K _ I.le
  · exact sp_X4_count_w hv (Or.inl e) (C _ _ (by first | exact hv | exact v1 | exact hv.of F1.1 | (show InvR _; rw [F1.2.1]; exact hv)) (fun P' K => sp_X5_count_w (show Inv (hfi h 0) from hv)  (Or.inl e) (K _ (LE.fnd I (c := 0) (by decide)))))
  · exact sp_X4_count_w hv (Or.inr (by omega)) (C _ _ (by first | exact hv | exact v1 | exact hv.of F1.1 | (show InvR _; rw [F1.2.1]; exact hv)) (fun P' K => sp_X5_count_w (show Inv (hfi h 0) from hv)  (Or.inr (by omega)) (K _ (LE.fnd I (c := 0) (by decide)))))
theorem sm_status {g : GG} {h : Hp} {n z n' : Nat} {r r' : Nat → Int32} {T : Nat → Nat} (I : LI h n r T z n' r') (v : Int32) : Sm g mX4_status mX5_status [.int v] h := by
  have S := I.1
  have hv := S.1
  have R := I.2.1
  have G := S.2.2
  have hn := G.1
  intro P C
  have Cq := I.2.2.1
  rcases sw_of v 7 (by decide) with ⟨k, hk, rfl⟩ | e | e
  · refine sp_X4_status hv hk (C _ _ (by first | exact hv | exact v1 | exact hv.of F1.1 | (show InvR _; rw [F1.2.1]; exact hv)) (fun P' K => ?_))
    refine sp_X5_status hv hk ?_
    rw [← Cq k hk]
    exact K _ I.le
  · by_cases e1 : v = -1
    · subst e1
      refine sp_X4_status_s hv (C _ _ (by first | exact hv | exact v1 | exact hv.of F1.1 | (show InvR _; rw [F1.2.1]; exact hv)) (fun P' K => ?_))
      refine sp_X5_status_s hv ?_
      rw [← w_sum_congr (fun k hk => Cq k hk)]
      exact K _ I.le
    · have b1 : v < 0 := by rw [i_lt]; exact e
      have b2 : v < -1 := by
        rw [i_lt]
        have q : (-1 : Int32).toInt = -1 := rfl
        have : v.toInt ≠ -1 := fun z => e1 (by rw [i_eq, z]; rfl)
        omega
      exact sp_X4_status_b hv e1 b1 (C _ _ (by first | exact hv | exact v1 | exact hv.of F1.1 | (show InvR _; rw [F1.2.1]; exact hv)) (fun P' K => sp_X5_status_b (show Inv (hfi h 0) from hv)  (Or.inl b2) (K _ (LE.fnd I (c := 0) (by decide)))))
  · have b1 : ¬ v < 0 := by rw [i_lt]; have q : (0 : Int32).toInt = 0 := rfl; omega
    have b2 : 7 ≤ v := by rw [i_le]; exact e
    have b3 : 6 < v := by rw [i_lt]; have q : (6 : Int32).toInt = 6 := rfl; omega
    exact sp_X4_status_c hv b1 b2 (C _ _ (by first | exact hv | exact v1 | exact hv.of F1.1 | (show InvR _; rw [F1.2.1]; exact hv)) (fun P' K => sp_X5_status_b (show Inv (hfi h 0) from hv)  (Or.inr b3) (K _ (LE.fnd I (c := 0) (by decide)))))
