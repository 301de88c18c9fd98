/-! ===== the reference: items, the text told ===== -/
/-- what stays while the reference is told a text -/
def FY (h0 h : Hp) : Prop := h.2.2 = h0.2.2 ∧ (∀ a, a ≠ 49 → a ≠ 50 → h.1 a = h0.1 a) ∧ (∀ a, a ≠ 49 → h.2.1 a = h0.2.1 a) ∧ h.1 49 7 = h0.1 49 7 ∧ h.1 49 20 = h0.1 49 20
theorem FY.rf {h : Hp} : FY h h := ⟨rfl, fun _ _ _ => rfl, fun _ _ => rfl, rfl, rfl⟩
theorem FY.tr {h h' h'' : Hp} (a : FY h h') (b : FY h' h'') : FY h h'' := ⟨b.1.trans a.1, fun x hx h5 => (b.2.1 x hx h5).trans (a.2.1 x hx h5), fun x hx => (b.2.2.1 x hx).trans (a.2.2.1 x hx), b.2.2.2.1.trans a.2.2.2.1, b.2.2.2.2.trans a.2.2.2.2⟩
theorem FA.fy {h0 h : Hp} (F : FA h0 h) : FY h0 h := ⟨F.1, fun a ha _ => F.2.1 a ha, F.2.2.1, F.2.2.2.1, F.2.2.2.2⟩
theorem QR.fy {h0 h : Hp} (F : QR h0 h) : FY h0 h := ⟨congrArg (·.2) F.1, fun a _ h5 => F.2 a h5, fun a _ => congrFun (congrArg (·.1) F.1) a, congrFun (F.2 49 (by decide)) 7, congrFun (F.2 49 (by decide)) 20⟩
theorem FY.inv {h0 h : Hp} (F : FY h0 h) (hv : Inv h0) : Inv h := by show InvR h.2.2; rw [F.1]; exact hv
theorem FY.mt {h0 h : Hp} {T : Nat → Nat} {z : Nat} (F : FY h0 h) (B : MT h0 T z) : MT h T z := ⟨B.1, F.2.2.2.1.trans B.2.1, B.2.2.1, fun i hi => by show h.1 55 i = _; rw [F.2.1 55 (by decide) (by decide)]; exact B.2.2.2 i hi⟩
theorem FY.ql {h0 h : Hp} (F : FY h0 h) : QL h0 h := ⟨F.1, fun a ha hb _ _ _ _ => F.2.1 a ha hb, fun a ha _ => F.2.2.1 a ha, F.2.2.2.1, F.2.2.2.2⟩
theorem TkM.fr {h h' : Hp} {T : Nat → Nat} {z k : Nat} (Tk : TkM h T z k) (e1 : h'.1 49 = h.1 49) (e2 : h'.2.1 49 = h.2.1 49) : TkM h' T z k := by
  unfold TkM hI hL
  rw [e1, e2]
  exact Tk
theorem TkM.qr {h h' : Hp} {T : Nat → Nat} {z k : Nat} (Tk : TkM h T z k) (Q : QR h h') : TkM h' T z k := Tk.fr (Q.2 49 (by decide)) (by rw [Q.1])
theorem TkM.g {h : Hp} {T : Nat → Nat} {z k : Nat} {v : Int32} (Tk : TkM h T z k) : TkM (uI h 49 13 v) T z k := ⟨(at_un (by decide)).trans Tk.1, (at_un (by decide)).trans Tk.2.1, (at_un (by decide)).trans Tk.2.2.1, Tk.2.2.2.1, fun c => (at_un (by decide)).trans (Tk.2.2.2.2.1 c), fun c => (at_un (by decide)).trans (Tk.2.2.2.2.2 c)⟩
theorem FA.g {h : Hp} {v : Int32} : FA h (uI h 49 13 v) := FA.rf.u (by decide) (by decide)
theorem tT_s {T : Nat → Nat} {z k : Nat} (h3 : 3 ≤ tT T z k) : tT T z k = sgn (T (tF T z k)) := by
  unfold tT at h3 ⊢
  split
  · rename_i c; rw [if_pos c] at h3; omega
  · rename_i c
    rw [if_neg c] at h3
    split
    · rename_i c; rw [if_pos c] at h3; omega
    · rename_i c
      rw [if_neg c] at h3
      split
      · rename_i c; rw [if_pos c] at h3; omega
      · rfl
theorem sg_all : ∀ t, t < 256 → (nI t = 59 ↔ sgn t = 3) ∧ (nI t = 45 ↔ sgn t = 4) := by decide +kernel
theorem sg_59 {T : Nat → Nat} {z k : Nat} (hT : ∀ i, T i < 256) (h3 : 3 ≤ tT T z k) : nI (T (tF T z k)) = 59 ↔ tT T z k = 3 := by rw [tT_s h3]; exact (sg_all _ (hT _)).1
theorem sg_45 {T : Nat → Nat} {z k : Nat} (hT : ∀ i, T i < 256) (h3 : 3 ≤ tT T z k) : nI (T (tF T z k)) = 45 ↔ tT T z k = 4 := by rw [tT_s h3]; exact (sg_all _ (hT _)).2
theorem kn_n {T : Nat → Nat} {z k : Nat} (h : ¬ tT T z k = 1) : kn T z k = -1 := by
  have w : ∀ i, ¬ wis T z k i = true := fun i c => h (wis_1 c)
  simp only [kn, knf]
  rw [if_neg (w _), if_neg (w _), if_neg (w _), if_neg (w _), if_neg (w _), if_neg (w _)]
theorem kd_0 {x : Int32} (h : Kd x) : ¬ x < 0 := by rcases h with rfl | rfl | rfl | rfl | rfl | rfl <;> decide
theorem sp_X5_wantNumber_z {g : GG} {h : Hp} {Post : Option Value → Hp → Prop} (hv : Inv h) {T : Nat → Nat} {z : Nat} (B : MT h T z) {k : Nat} (hk : k ≤ z) (Tk : TkM h T z k) (g0 : hI h 49 13 = 0) (l x : Int32) (K : ∀ h' v, FA h h' → TkM h' T z k → hI h' 49 13 = 0 → Post (some (.int v)) h') : Sp g mX5_wantNumber [.ref 49, .int l, .int x] h Post := by
  show Go g mX5_wantNumber 0 [_, _, _, _] [] _ _ _
  refine ok_aload_n dX5_wantNumber_0 rfl rfl ?_
  refine ok_getI dX5_wantNumber_1 f_X5_185 (by first | exact is_lit hv (by decide) rfl | exact is_sq hv hq | exact is_row hv hq | exact is_pn hv hq (by assumption) | assumption) rfl ?_
  refine ok_istore_n (lo' := [_, _, _, _]) dX5_wantNumber_4 rfl (Nat.le_of_ble_eq_true rfl) rfl rfl ?_
  refine ok_aload_n dX5_wantNumber_5 rfl rfl ?_
  refine ok_aload_n dX5_wantNumber_6 rfl rfl ?_
  refine ok_getI dX5_wantNumber_7 f_X5_210 (by first | exact is_lit hv (by decide) rfl | exact is_sq hv hq | exact is_row hv hq | exact is_pn hv hq (by assumption) | assumption) rfl ?_
  rw [g0]
  refine ok_if_eq (tgt := 34) dX5_wantNumber_10 (by decide) (fun _ => ?_) (fun c9 => absurd rfl c9)
  refine ok_iconst (v := 0) dX5_wantNumber_34 (by decide) ?_
  refine ok_putI dX5_wantNumber_35 f_X5_210 (by first | exact is_lit hv (by decide) rfl | exact is_sq hv hq | exact is_row hv hq | exact is_pn hv hq (by assumption) | assumption) rfl rfl rfl rfl ?_
  refine ok_aload_n dX5_wantNumber_38 rfl rfl ?_
  refine ok_getI dX5_wantNumber_39 f_X5_210 (by first | exact is_lit hv (by decide) rfl | exact is_sq hv hq | exact is_row hv hq | exact is_pn hv hq (by assumption) | assumption) rfl ?_
  rw [at_uI]
  refine ok_if_eq (tgt := 49) dX5_wantNumber_42 (by decide) (fun _ => ?_) (fun c9 => absurd rfl c9)
  refine ok_iload_n dX5_wantNumber_49 rfl rfl ?_
  refine ok_ireturn dX5_wantNumber_50 rfl rfl ?_
  exact K _ _ FA.g Tk.g at_uI
theorem sp_X5_wantNumber_n {g : GG} {h : Hp} {Post : Option Value → Hp → Prop} (hv : Inv h) {T : Nat → Nat} {z : Nat} (B : MT h T z) {k : Nat} (hk : k ≤ z) (Tk : TkM h T z k) (g1 : hI h 49 13 = 1) {M : Nat} {x : Int32} (hM : M ≤ 1000) (ex : x = nI M - 1) (c : ¬ num T z k M = true) (K : ∀ h' v, FA h h' → TkM h' T z k → hI h' 49 13 = 0 → Post (some (.int v)) h') : Sp g mX5_wantNumber [.ref 49, .int 0, .int x] h Post := by
  show Go g mX5_wantNumber 0 [_, _, _, _] [] _ _ _
  have t5 := tT_le T z k
  subst ex
  by_cases t2 : tT T z k = 2
  · have nb : nI M - 1 < nI (tN T z k) := i_nle.mp (fun e => c (decide_eq_true ⟨t2, (num_le hM).mp e⟩))
    refine ok_aload_n dX5_wantNumber_0 rfl rfl ?_
    refine ok_getI dX5_wantNumber_1 f_X5_185 (by first | exact is_lit hv (by decide) rfl | exact is_sq hv hq | exact is_row hv hq | exact is_pn hv hq (by assumption) | assumption) rfl ?_
    rw [Tk.2.2.2.2.1 t2]
    refine ok_istore_n (lo' := [_, _, _, _]) dX5_wantNumber_4 rfl (Nat.le_of_ble_eq_true rfl) rfl rfl ?_
    refine ok_aload_n dX5_wantNumber_5 rfl rfl ?_
    refine ok_aload_n dX5_wantNumber_6 rfl rfl ?_
    refine ok_getI dX5_wantNumber_7 f_X5_210 (by first | exact is_lit hv (by decide) rfl | exact is_sq hv hq | exact is_row hv hq | exact is_pn hv hq (by assumption) | assumption) rfl ?_
    rw [g1]
    refine ok_if_eq (tgt := 34) dX5_wantNumber_10 (by decide) (fun c9 => absurd c9 (by decide)) (fun _ => ?_)
    refine ok_aload_n dX5_wantNumber_13 rfl rfl ?_
    refine ok_getI dX5_wantNumber_14 f_X5_178 (by first | exact is_lit hv (by decide) rfl | exact is_sq hv hq | exact is_row hv hq | exact is_pn hv hq (by assumption) | assumption) rfl ?_
    rw [Tk.1]
    refine ok_iconst (v := 2) dX5_wantNumber_17 (by decide) ?_
    refine ok_icmp_ne (tgt := 34) dX5_wantNumber_18 (by decide) (fun c9 => absurd c9 (fun e => e ((mn_2 t5).mpr t2))) (fun _ => ?_)
    refine ok_iload_n dX5_wantNumber_21 rfl rfl ?_
    refine ok_iload_n dX5_wantNumber_22 rfl rfl ?_
    refine ok_iload_n dX5_wantNumber_23 rfl rfl ?_
    refine ok_callS (M' := mX5_in) (b' := (0, 0)) (As := [_, _, _]) dX5_wantNumber_24 iX5_in w_846 rfl (Nat.le_of_ble_eq_true rfl) ⟨Nat.le_of_ble_eq_true rfl, Nat.le_of_ble_eq_true rfl⟩ (Nat.le_of_ble_eq_true rfl) rfl rfl ?_
    refine sp_X5_in _ _ _ ?_
    rw [wi_bad (Or.inr nb)]
    refine ok_if_eq (tgt := 34) dX5_wantNumber_27 (by decide) (fun _ => ?_) (fun c9 => absurd rfl c9)
    refine ok_iconst (v := 0) dX5_wantNumber_34 (by decide) ?_
    refine ok_putI dX5_wantNumber_35 f_X5_210 (by first | exact is_lit hv (by decide) rfl | exact is_sq hv hq | exact is_row hv hq | exact is_pn hv hq (by assumption) | assumption) rfl rfl rfl rfl ?_
    refine ok_aload_n dX5_wantNumber_38 rfl rfl ?_
    refine ok_getI dX5_wantNumber_39 f_X5_210 (by first | exact is_lit hv (by decide) rfl | exact is_sq hv hq | exact is_row hv hq | exact is_pn hv hq (by assumption) | assumption) rfl ?_
    rw [at_uI]
    refine ok_if_eq (tgt := 49) dX5_wantNumber_42 (by decide) (fun _ => ?_) (fun c9 => absurd rfl c9)
    refine ok_iload_n dX5_wantNumber_49 rfl rfl ?_
    refine ok_ireturn dX5_wantNumber_50 rfl rfl ?_
    exact K _ _ FA.g Tk.g at_uI
  · refine ok_aload_n dX5_wantNumber_0 rfl rfl ?_
    refine ok_getI dX5_wantNumber_1 f_X5_185 (by first | exact is_lit hv (by decide) rfl | exact is_sq hv hq | exact is_row hv hq | exact is_pn hv hq (by assumption) | assumption) rfl ?_
    refine ok_istore_n (lo' := [_, _, _, _]) dX5_wantNumber_4 rfl (Nat.le_of_ble_eq_true rfl) rfl rfl ?_
    refine ok_aload_n dX5_wantNumber_5 rfl rfl ?_
    refine ok_aload_n dX5_wantNumber_6 rfl rfl ?_
    refine ok_getI dX5_wantNumber_7 f_X5_210 (by first | exact is_lit hv (by decide) rfl | exact is_sq hv hq | exact is_row hv hq | exact is_pn hv hq (by assumption) | assumption) rfl ?_
    rw [g1]
    refine ok_if_eq (tgt := 34) dX5_wantNumber_10 (by decide) (fun c9 => absurd c9 (by decide)) (fun _ => ?_)
    refine ok_aload_n dX5_wantNumber_13 rfl rfl ?_
    refine ok_getI dX5_wantNumber_14 f_X5_178 (by first | exact is_lit hv (by decide) rfl | exact is_sq hv hq | exact is_row hv hq | exact is_pn hv hq (by assumption) | assumption) rfl ?_
    rw [Tk.1]
    refine ok_iconst (v := 2) dX5_wantNumber_17 (by decide) ?_
    refine ok_icmp_ne (tgt := 34) dX5_wantNumber_18 (by decide) (fun _ => ?_) (fun c9 => absurd c9 (fun e => t2 ((mn_2 t5).mp e)))
    refine ok_iconst (v := 0) dX5_wantNumber_34 (by decide) ?_
    refine ok_putI dX5_wantNumber_35 f_X5_210 (by first | exact is_lit hv (by decide) rfl | exact is_sq hv hq | exact is_row hv hq | exact is_pn hv hq (by assumption) | assumption) rfl rfl rfl rfl ?_
    refine ok_aload_n dX5_wantNumber_38 rfl rfl ?_
    refine ok_getI dX5_wantNumber_39 f_X5_210 (by first | exact is_lit hv (by decide) rfl | exact is_sq hv hq | exact is_row hv hq | exact is_pn hv hq (by assumption) | assumption) rfl ?_
    rw [at_uI]
    refine ok_if_eq (tgt := 49) dX5_wantNumber_42 (by decide) (fun _ => ?_) (fun c9 => absurd rfl c9)
    refine ok_iload_n dX5_wantNumber_49 rfl rfl ?_
    refine ok_ireturn dX5_wantNumber_50 rfl rfl ?_
    exact K _ _ FA.g Tk.g at_uI
theorem sp_X5_wantNumber_y {g : GG} {h : Hp} {Post : Option Value → Hp → Prop} (hv : Inv h) {T : Nat → Nat} {z : Nat} (B : MT h T z) {k : Nat} (hk : k ≤ z) (Tk : TkM h T z k) (g1 : hI h 49 13 = 1) {M : Nat} {x : Int32} (hM : M ≤ 1000) (ex : x = nI M - 1) (c : num T z k M = true) (K : ∀ h', FA h h' → TkM h' T z (tB T z k) → hI h' 49 13 = 1 → Post (some (.int (nI (tN T z k)))) h') : Sp g mX5_wantNumber [.ref 49, .int 0, .int x] h Post := by
  show Go g mX5_wantNumber 0 [_, _, _, _] [] _ _ _
  have t5 := tT_le T z k
  have t1000 := tN_le T z k
  subst ex
  obtain ⟨t2, tl⟩ := of_decide_eq_true c
  have nb : ¬ nI M - 1 < nI (tN T z k) := i_nlt.mpr ((num_le hM).mpr tl)
  refine ok_aload_n dX5_wantNumber_0 rfl rfl ?_
  refine ok_getI dX5_wantNumber_1 f_X5_185 (by first | exact is_lit hv (by decide) rfl | exact is_sq hv hq | exact is_row hv hq | exact is_pn hv hq (by assumption) | assumption) rfl ?_
  rw [Tk.2.2.2.2.1 t2]
  refine ok_istore_n (lo' := [_, _, _, _]) dX5_wantNumber_4 rfl (Nat.le_of_ble_eq_true rfl) rfl rfl ?_
  refine ok_aload_n dX5_wantNumber_5 rfl rfl ?_
  refine ok_aload_n dX5_wantNumber_6 rfl rfl ?_
  refine ok_getI dX5_wantNumber_7 f_X5_210 (by first | exact is_lit hv (by decide) rfl | exact is_sq hv hq | exact is_row hv hq | exact is_pn hv hq (by assumption) | assumption) rfl ?_
  rw [g1]
  refine ok_if_eq (tgt := 34) dX5_wantNumber_10 (by decide) (fun c9 => absurd c9 (by decide)) (fun _ => ?_)
  refine ok_aload_n dX5_wantNumber_13 rfl rfl ?_
  refine ok_getI dX5_wantNumber_14 f_X5_178 (by first | exact is_lit hv (by decide) rfl | exact is_sq hv hq | exact is_row hv hq | exact is_pn hv hq (by assumption) | assumption) rfl ?_
  rw [Tk.1]
  refine ok_iconst (v := 2) dX5_wantNumber_17 (by decide) ?_
  refine ok_icmp_ne (tgt := 34) dX5_wantNumber_18 (by decide) (fun c9 => absurd c9 (fun e => e ((mn_2 t5).mpr t2))) (fun _ => ?_)
  refine ok_iload_n dX5_wantNumber_21 rfl rfl ?_
  refine ok_iload_n dX5_wantNumber_22 rfl rfl ?_
  refine ok_iload_n dX5_wantNumber_23 rfl rfl ?_
  refine ok_callS (M' := mX5_in) (b' := (0, 0)) (As := [_, _, _]) dX5_wantNumber_24 iX5_in w_846 rfl (Nat.le_of_ble_eq_true rfl) ⟨Nat.le_of_ble_eq_true rfl, Nat.le_of_ble_eq_true rfl⟩ (Nat.le_of_ble_eq_true rfl) rfl rfl ?_
  refine sp_X5_in _ _ _ ?_
  rw [wi_ok (nI_pos (by omega)) nb]
  refine ok_if_eq (tgt := 34) dX5_wantNumber_27 (by decide) (fun c9 => absurd c9 (by decide)) (fun _ => ?_)
  refine ok_iconst (v := 1) dX5_wantNumber_30 (by decide) ?_
  refine ok_goto (tgt := 35) dX5_wantNumber_31 (by decide) ?_
  refine ok_putI dX5_wantNumber_35 f_X5_210 (by first | exact is_lit hv (by decide) rfl | exact is_sq hv hq | exact is_row hv hq | exact is_pn hv hq (by assumption) | assumption) rfl rfl rfl rfl ?_
  refine ok_aload_n dX5_wantNumber_38 rfl rfl ?_
  refine ok_getI dX5_wantNumber_39 f_X5_210 (by first | exact is_lit hv (by decide) rfl | exact is_sq hv hq | exact is_row hv hq | exact is_pn hv hq (by assumption) | assumption) rfl ?_
  rw [at_uI]
  refine ok_if_eq (tgt := 49) dX5_wantNumber_42 (by decide) (fun c9 => absurd c9 (by decide)) (fun _ => ?_)
  refine ok_aload_n dX5_wantNumber_45 rfl rfl ?_
  refine ok_callV (M' := mX5_advance) (b' := (0, 0)) (As := []) (cx := 5) dX5_wantNumber_46 iX5_advance w_1090 (by decide) rfl (by first | exact is_lit hv (by decide) rfl | exact is_sq hv hq | exact is_row hv hq | exact is_pn hv hq (by assumption) | assumption) rfl (Nat.le_of_ble_eq_true rfl) ⟨Nat.le_of_ble_eq_true rfl, Nat.le_of_ble_eq_true rfl⟩ (Nat.le_of_ble_eq_true rfl) rfl rfl ?_
  refine sp_X5_advance (h := uI h 49 13 1) hv (FA.g.mt B) (tB_le hk).2 ((at_un (by decide)).trans Tk.2.2.1) (fun h1 F1 g2 T1 => ?_)
  refine ok_iload_n dX5_wantNumber_49 rfl rfl ?_
  refine ok_ireturn dX5_wantNumber_50 rfl rfl ?_
  exact K h1 (FA.g.tr F1) T1 (g2.trans at_uI)
theorem sp_X5_mayWant_z {g : GG} {h : Hp} {Post : Option Value → Hp → Prop} (hv : Inv h) {T : Nat → Nat} {z : Nat} (B : MT h T z) {k : Nat} (hk : k ≤ z) (Tk : TkM h T z k) (g0 : hI h 49 13 = 0) (w : Int64) (l x d : Int32) (K : Post (some (.int d)) h) : Sp g mX5_mayWant [.ref 49, .long w, .int l, .int x, .int d] h Post := by
  show Go g mX5_mayWant 0 [_, _, _, _, _, _] [] _ _ _
  refine ok_aload_n dX5_mayWant_0 rfl rfl ?_
  refine ok_getI dX5_mayWant_1 f_X5_210 (by first | exact is_lit hv (by decide) rfl | exact is_sq hv hq | exact is_row hv hq | exact is_pn hv hq (by assumption) | assumption) rfl ?_
  rw [g0]
  refine ok_if_eq (tgt := 15) dX5_mayWant_4 (by decide) (fun _ => ?_) (fun c9 => absurd rfl c9)
  refine ok_iload dX5_mayWant_15 rfl ?_
  refine ok_ireturn dX5_mayWant_17 rfl rfl ?_
  first | exact K | (simp only [↓reduceIte] at K; exact K)
theorem sp_X5_mayWant {g : GG} {h : Hp} {Post : Option Value → Hp → Prop} (hv : Inv h) {T : Nat → Nat} {z : Nat} (B : MT h T z) {k : Nat} (hk : k ≤ z) (Tk : TkM h T z k) (g1 : hI h 49 13 = 1) {i : Nat} (hi : i < 15) {M d : Nat} {x : Int32} (hM : M ≤ 1000) (ex : x = nI M - 1) (K : ∀ h' v, FA h h' → TkM h' T z (i_opt T z i M d k).2.1 → (i_opt T z i M d k).2.1 ≤ z → hI h' 49 13 = (if (i_opt T z i M d k).1 = true then 1 else 0) → ((i_opt T z i M d k).1 = true → v = nI (i_opt T z i M d k).2.2) → Post (some (.int v)) h') : Sp g mX5_mayWant [.ref 49, .long (wC.getD i 0), .int 0, .int x, .int (nI d)] h Post := by
  show Go g mX5_mayWant 0 [_, _, _, _, _, _] [] _ _ _
  by_cases w : wis T z k i = true
  · by_cases c : num T z (tB T z k) M = true
    · rw [show i_opt T z i M d k = _ from (if_pos w).trans (if_pos c)] at K
      refine ok_aload_n dX5_mayWant_0 rfl rfl ?_
      refine ok_getI dX5_mayWant_1 f_X5_210 (by first | exact is_lit hv (by decide) rfl | exact is_sq hv hq | exact is_row hv hq | exact is_pn hv hq (by assumption) | assumption) rfl ?_
      rw [g1]
      refine ok_if_eq (tgt := 15) dX5_mayWant_4 (by decide) (fun c9 => absurd c9 (by decide)) (fun _ => ?_)
      refine ok_aload_n dX5_mayWant_7 rfl rfl ?_
      refine ok_lload_n dX5_mayWant_8 rfl rfl ?_
      refine ok_callV (M' := mX5_isWord) (b' := (0, 0)) (As := [_]) (cx := 5) dX5_mayWant_9 iX5_isWord w_1116 (by decide) rfl (by first | exact is_lit hv (by decide) rfl | exact is_sq hv hq | exact is_row hv hq | exact is_pn hv hq (by assumption) | assumption) rfl (Nat.le_of_ble_eq_true rfl) ⟨Nat.le_of_ble_eq_true rfl, Nat.le_of_ble_eq_true rfl⟩ (Nat.le_of_ble_eq_true rfl) rfl rfl ?_
      refine sp_X5_isWord hv B hk Tk hi ?_
      refine ok_if_ne (tgt := 18) dX5_mayWant_12 (by decide) (fun _ => ?_) (fun c9 => absurd c9 (by rw [if_pos w]; decide))
      refine ok_aload_n dX5_mayWant_18 rfl rfl ?_
      refine ok_callV (M' := mX5_advance) (b' := (0, 0)) (As := []) (cx := 5) dX5_mayWant_19 iX5_advance w_1090 (by decide) rfl (by first | exact is_lit hv (by decide) rfl | exact is_sq hv hq | exact is_row hv hq | exact is_pn hv hq (by assumption) | assumption) rfl (Nat.le_of_ble_eq_true rfl) ⟨Nat.le_of_ble_eq_true rfl, Nat.le_of_ble_eq_true rfl⟩ (Nat.le_of_ble_eq_true rfl) rfl rfl ?_
      refine sp_X5_advance hv B (tB_le hk).2 Tk.2.2.1 (fun h1 F1 g2 T1 => ?_)
      have g2 := g2.trans g1
      have hv1 := F1.inv hv
      have B1 := F1.mt B
      have hk1 := (tB_le (T := T) hk).2
      have hv := hv1
      refine ok_aload_n dX5_mayWant_22 rfl rfl ?_
      refine ok_iload_n dX5_mayWant_23 rfl rfl ?_
      refine ok_iload dX5_mayWant_24 rfl ?_
      refine ok_callV (M' := mX5_wantNumber) (b' := (0, 0)) (As := [_, _]) (cx := 5) dX5_mayWant_26 iX5_wantNumber w_1134 (by decide) rfl (by first | exact is_lit hv (by decide) rfl | exact is_sq hv hq | exact is_row hv hq | exact is_pn hv hq (by assumption) | assumption) rfl (Nat.le_of_ble_eq_true rfl) ⟨Nat.le_of_ble_eq_true rfl, Nat.le_of_ble_eq_true rfl⟩ (Nat.le_of_ble_eq_true rfl) rfl rfl ?_
      refine sp_X5_wantNumber_y hv1 B1 hk1 T1 g2 hM ex c (fun h2 F2 T2 g3 => ?_)
      refine ok_ireturn dX5_mayWant_29 rfl rfl ?_
      exact K h2 _ (F1.tr F2) T2 (tB_le hk1).2 g3 (fun _ => rfl)
    · rw [show i_opt T z i M d k = _ from (if_pos w).trans (if_neg c)] at K
      refine ok_aload_n dX5_mayWant_0 rfl rfl ?_
      refine ok_getI dX5_mayWant_1 f_X5_210 (by first | exact is_lit hv (by decide) rfl | exact is_sq hv hq | exact is_row hv hq | exact is_pn hv hq (by assumption) | assumption) rfl ?_
      rw [g1]
      refine ok_if_eq (tgt := 15) dX5_mayWant_4 (by decide) (fun c9 => absurd c9 (by decide)) (fun _ => ?_)
      refine ok_aload_n dX5_mayWant_7 rfl rfl ?_
      refine ok_lload_n dX5_mayWant_8 rfl rfl ?_
      refine ok_callV (M' := mX5_isWord) (b' := (0, 0)) (As := [_]) (cx := 5) dX5_mayWant_9 iX5_isWord w_1116 (by decide) rfl (by first | exact is_lit hv (by decide) rfl | exact is_sq hv hq | exact is_row hv hq | exact is_pn hv hq (by assumption) | assumption) rfl (Nat.le_of_ble_eq_true rfl) ⟨Nat.le_of_ble_eq_true rfl, Nat.le_of_ble_eq_true rfl⟩ (Nat.le_of_ble_eq_true rfl) rfl rfl ?_
      refine sp_X5_isWord hv B hk Tk hi ?_
      refine ok_if_ne (tgt := 18) dX5_mayWant_12 (by decide) (fun _ => ?_) (fun c9 => absurd c9 (by rw [if_pos w]; decide))
      refine ok_aload_n dX5_mayWant_18 rfl rfl ?_
      refine ok_callV (M' := mX5_advance) (b' := (0, 0)) (As := []) (cx := 5) dX5_mayWant_19 iX5_advance w_1090 (by decide) rfl (by first | exact is_lit hv (by decide) rfl | exact is_sq hv hq | exact is_row hv hq | exact is_pn hv hq (by assumption) | assumption) rfl (Nat.le_of_ble_eq_true rfl) ⟨Nat.le_of_ble_eq_true rfl, Nat.le_of_ble_eq_true rfl⟩ (Nat.le_of_ble_eq_true rfl) rfl rfl ?_
      refine sp_X5_advance hv B (tB_le hk).2 Tk.2.2.1 (fun h1 F1 g2 T1 => ?_)
      have g2 := g2.trans g1
      have hv1 := F1.inv hv
      have B1 := F1.mt B
      have hk1 := (tB_le (T := T) hk).2
      have hv := hv1
      refine ok_aload_n dX5_mayWant_22 rfl rfl ?_
      refine ok_iload_n dX5_mayWant_23 rfl rfl ?_
      refine ok_iload dX5_mayWant_24 rfl ?_
      refine ok_callV (M' := mX5_wantNumber) (b' := (0, 0)) (As := [_, _]) (cx := 5) dX5_mayWant_26 iX5_wantNumber w_1134 (by decide) rfl (by first | exact is_lit hv (by decide) rfl | exact is_sq hv hq | exact is_row hv hq | exact is_pn hv hq (by assumption) | assumption) rfl (Nat.le_of_ble_eq_true rfl) ⟨Nat.le_of_ble_eq_true rfl, Nat.le_of_ble_eq_true rfl⟩ (Nat.le_of_ble_eq_true rfl) rfl rfl ?_
      refine sp_X5_wantNumber_n hv1 B1 hk1 T1 g2 hM ex c (fun h2 v2 F2 T2 g3 => ?_)
      refine ok_ireturn dX5_mayWant_29 rfl rfl ?_
      exact K h2 _ (F1.tr F2) T2 hk1 g3 (fun e => absurd e Bool.false_ne_true)
  · rw [show i_opt T z i M d k = _ from if_neg w] at K
    refine ok_aload_n dX5_mayWant_0 rfl rfl ?_
    refine ok_getI dX5_mayWant_1 f_X5_210 (by first | exact is_lit hv (by decide) rfl | exact is_sq hv hq | exact is_row hv hq | exact is_pn hv hq (by assumption) | assumption) rfl ?_
    rw [g1]
    refine ok_if_eq (tgt := 15) dX5_mayWant_4 (by decide) (fun c9 => absurd c9 (by decide)) (fun _ => ?_)
    refine ok_aload_n dX5_mayWant_7 rfl rfl ?_
    refine ok_lload_n dX5_mayWant_8 rfl rfl ?_
    refine ok_callV (M' := mX5_isWord) (b' := (0, 0)) (As := [_]) (cx := 5) dX5_mayWant_9 iX5_isWord w_1116 (by decide) rfl (by first | exact is_lit hv (by decide) rfl | exact is_sq hv hq | exact is_row hv hq | exact is_pn hv hq (by assumption) | assumption) rfl (Nat.le_of_ble_eq_true rfl) ⟨Nat.le_of_ble_eq_true rfl, Nat.le_of_ble_eq_true rfl⟩ (Nat.le_of_ble_eq_true rfl) rfl rfl ?_
    refine sp_X5_isWord hv B hk Tk hi ?_
    refine ok_if_ne (tgt := 18) dX5_mayWant_12 (by decide) (fun c9 => absurd c9 (by rw [if_neg w]; exact fun c => c rfl)) (fun _ => ?_)
    refine ok_iload dX5_mayWant_15 rfl ?_
    refine ok_ireturn dX5_mayWant_17 rfl rfl ?_
    exact K h _ FA.rf Tk hk g1 (fun _ => rfl)
theorem sp_X5_wantLet_1 {g : GG} {h0 h : Hp} {Post : Option Value → Hp → Prop} (hv : Inv h) {T : Nat → Nat} {z : Nat} (B : MT h T z) {k : Nat} (hk : k ≤ z) (Tk : TkM h T z k) {n : Nat} {r : Nat → Int32} (R : RM 50 h n r) (Q : FY h0 h) (g1 : hI h 49 13 = 1) (K : ∀ h', FY h0 h' → TkM h' T z (i_coins T z k n r).2.1 → hI h' 49 13 = (if (i_coins T z k n r).1 = true then 1 else 0) → ((i_coins T z k n r).1 = true → RM 50 h' (i_coins T z k n r).2.2.1 (i_coins T z k n r).2.2.2) → Post none h') : Sp g mX5_wantLet [.ref 49, .int 1, .int 999] h Post := by
  show Go g mX5_wantLet 0 [_, _, _, _] [] _ _ _
  by_cases c : num T z (tB T z k) 1000 = true
  · rw [show i_coins T z k n r = _ from if_pos c] at K
    refine ok_aload_n dX5_wantLet_0 rfl rfl ?_
    refine ok_callV (M' := mX5_advance) (b' := (0, 0)) (As := []) (cx := 5) dX5_wantLet_1 iX5_advance w_1090 (by decide) rfl (by first | exact is_lit hv (by decide) rfl | exact is_sq hv hq | exact is_row hv hq | exact is_pn hv hq (by assumption) | assumption) rfl (Nat.le_of_ble_eq_true rfl) ⟨Nat.le_of_ble_eq_true rfl, Nat.le_of_ble_eq_true rfl⟩ (Nat.le_of_ble_eq_true rfl) rfl rfl ?_
    refine sp_X5_advance hv B (tB_le hk).2 Tk.2.2.1 (fun h1 F1 g2 T1 => ?_)
    have hk := (tB_le (T := T) hk).2
    have g1 := g2.trans g1
    have Q := Q.tr F1.fy
    have R := F1.rm (by decide) R
    have hv := F1.inv hv
    have B := F1.mt B
    have Tk := T1
    refine ok_aload_n dX5_wantLet_4 rfl rfl ?_
    refine ok_iconst (v := 0) dX5_wantLet_5 (by decide) ?_
    refine ok_iload_n dX5_wantLet_6 rfl rfl ?_
    refine ok_callV (M' := mX5_wantNumber) (b' := (0, 0)) (As := [_, _]) (cx := 5) dX5_wantLet_7 iX5_wantNumber w_1134 (by decide) rfl (by first | exact is_lit hv (by decide) rfl | exact is_sq hv hq | exact is_row hv hq | exact is_pn hv hq (by assumption) | assumption) rfl (Nat.le_of_ble_eq_true rfl) ⟨Nat.le_of_ble_eq_true rfl, Nat.le_of_ble_eq_true rfl⟩ (Nat.le_of_ble_eq_true rfl) rfl rfl ?_
    refine sp_X5_wantNumber_y hv B hk Tk g1 (M := 1000) (by decide) rfl c (fun h1 F1 T1 g1 => ?_)
    have hk := (tB_le (T := T) hk).2
    have Q := Q.tr F1.fy
    have R := F1.rm (by decide) R
    have hv := F1.inv hv
    have B := F1.mt B
    have Tk := T1
    refine ok_istore_n (lo' := [_, _, _, _]) dX5_wantLet_10 rfl (Nat.le_of_ble_eq_true rfl) rfl rfl ?_
    refine ok_aload_n dX5_wantLet_11 rfl rfl ?_
    refine ok_getI dX5_wantLet_12 f_X5_210 (by first | exact is_lit hv (by decide) rfl | exact is_sq hv hq | exact is_row hv hq | exact is_pn hv hq (by assumption) | assumption) rfl ?_
    rw [g1]
    refine ok_if_eq (tgt := 25) dX5_wantLet_15 (by decide) (fun c9 => absurd c9 (by decide)) (fun _ => ?_)
    refine ok_aload_n dX5_wantLet_18 rfl rfl ?_
    refine ok_getR dX5_wantLet_19 f_X5_7 (by first | exact is_lit hv (by decide) rfl | exact is_sq hv hq | exact is_row hv hq | exact is_pn hv hq (by assumption) | assumption) rfl (by first | exact rf hv rfl | exact rf_row hv hq | assumption) ?_
    refine ok_iload_n dX5_wantLet_22 rfl rfl ?_
    refine ok_iload_n dX5_wantLet_23 rfl rfl ?_
    refine ok_iastore dX5_wantLet_24 (is_lit hv (by decide) rfl) (by unfold vp_in; decide) ?_
    refine ok_return dX5_wantLet_25 rfl ?_
    exact K _ (Q.tr (QR.rf.u rfl).fy) (Tk.qr (QR.rf.u rfl)) ((at_ua (by decide)).trans g1) (fun _ => R.u (by decide))
  · rw [show i_coins T z k n r = _ from if_neg c] at K
    refine ok_aload_n dX5_wantLet_0 rfl rfl ?_
    refine ok_callV (M' := mX5_advance) (b' := (0, 0)) (As := []) (cx := 5) dX5_wantLet_1 iX5_advance w_1090 (by decide) rfl (by first | exact is_lit hv (by decide) rfl | exact is_sq hv hq | exact is_row hv hq | exact is_pn hv hq (by assumption) | assumption) rfl (Nat.le_of_ble_eq_true rfl) ⟨Nat.le_of_ble_eq_true rfl, Nat.le_of_ble_eq_true rfl⟩ (Nat.le_of_ble_eq_true rfl) rfl rfl ?_
    refine sp_X5_advance hv B (tB_le hk).2 Tk.2.2.1 (fun h1 F1 g2 T1 => ?_)
    have hk := (tB_le (T := T) hk).2
    have g1 := g2.trans g1
    have Q := Q.tr F1.fy
    have R := F1.rm (by decide) R
    have hv := F1.inv hv
    have B := F1.mt B
    have Tk := T1
    refine ok_aload_n dX5_wantLet_4 rfl rfl ?_
    refine ok_iconst (v := 0) dX5_wantLet_5 (by decide) ?_
    refine ok_iload_n dX5_wantLet_6 rfl rfl ?_
    refine ok_callV (M' := mX5_wantNumber) (b' := (0, 0)) (As := [_, _]) (cx := 5) dX5_wantLet_7 iX5_wantNumber w_1134 (by decide) rfl (by first | exact is_lit hv (by decide) rfl | exact is_sq hv hq | exact is_row hv hq | exact is_pn hv hq (by assumption) | assumption) rfl (Nat.le_of_ble_eq_true rfl) ⟨Nat.le_of_ble_eq_true rfl, Nat.le_of_ble_eq_true rfl⟩ (Nat.le_of_ble_eq_true rfl) rfl rfl ?_
    refine sp_X5_wantNumber_n hv B hk Tk g1 (M := 1000) (by decide) rfl c (fun h1 v1 F1 T1 g1 => ?_)
    have Q := Q.tr F1.fy
    have R := F1.rm (by decide) R
    have hv := F1.inv hv
    have B := F1.mt B
    have Tk := T1
    refine ok_istore_n (lo' := [_, _, _, _]) dX5_wantLet_10 rfl (Nat.le_of_ble_eq_true rfl) rfl rfl ?_
    refine ok_aload_n dX5_wantLet_11 rfl rfl ?_
    refine ok_getI dX5_wantLet_12 f_X5_210 (by first | exact is_lit hv (by decide) rfl | exact is_sq hv hq | exact is_row hv hq | exact is_pn hv hq (by assumption) | assumption) rfl ?_
    rw [g1]
    refine ok_if_eq (tgt := 25) dX5_wantLet_15 (by decide) (fun _ => ?_) (fun c9 => absurd rfl c9)
    refine ok_return dX5_wantLet_25 rfl ?_
    exact K _ Q Tk g1 (fun c => absurd c Bool.false_ne_true)
theorem sp_X5_wantLet_2 {g : GG} {h0 h : Hp} {Post : Option Value → Hp → Prop} (hv : Inv h) {T : Nat → Nat} {z : Nat} (B : MT h T z) {k : Nat} (hk : k ≤ z) (Tk : TkM h T z k) {n : Nat} {r : Nat → Int32} (R : RM 50 h n r) (Q : FY h0 h) (g1 : hI h 49 13 = 1) (K : ∀ h', FY h0 h' → TkM h' T z (i_law T z k n r).2.1 → hI h' 49 13 = (if (i_law T z k n r).1 = true then 1 else 0) → ((i_law T z k n r).1 = true → RM 50 h' (i_law T z k n r).2.2.1 (i_law T z k n r).2.2.2) → Post none h') : Sp g mX5_wantLet [.ref 49, .int 2, .int 2] h Post := by
  show Go g mX5_wantLet 0 [_, _, _, _] [] _ _ _
  by_cases c : num T z (tB T z k) 3 = true
  · rw [show i_law T z k n r = _ from if_pos c] at K
    refine ok_aload_n dX5_wantLet_0 rfl rfl ?_
    refine ok_callV (M' := mX5_advance) (b' := (0, 0)) (As := []) (cx := 5) dX5_wantLet_1 iX5_advance w_1090 (by decide) rfl (by first | exact is_lit hv (by decide) rfl | exact is_sq hv hq | exact is_row hv hq | exact is_pn hv hq (by assumption) | assumption) rfl (Nat.le_of_ble_eq_true rfl) ⟨Nat.le_of_ble_eq_true rfl, Nat.le_of_ble_eq_true rfl⟩ (Nat.le_of_ble_eq_true rfl) rfl rfl ?_
    refine sp_X5_advance hv B (tB_le hk).2 Tk.2.2.1 (fun h1 F1 g2 T1 => ?_)
    have hk := (tB_le (T := T) hk).2
    have g1 := g2.trans g1
    have Q := Q.tr F1.fy
    have R := F1.rm (by decide) R
    have hv := F1.inv hv
    have B := F1.mt B
    have Tk := T1
    refine ok_aload_n dX5_wantLet_4 rfl rfl ?_
    refine ok_iconst (v := 0) dX5_wantLet_5 (by decide) ?_
    refine ok_iload_n dX5_wantLet_6 rfl rfl ?_
    refine ok_callV (M' := mX5_wantNumber) (b' := (0, 0)) (As := [_, _]) (cx := 5) dX5_wantLet_7 iX5_wantNumber w_1134 (by decide) rfl (by first | exact is_lit hv (by decide) rfl | exact is_sq hv hq | exact is_row hv hq | exact is_pn hv hq (by assumption) | assumption) rfl (Nat.le_of_ble_eq_true rfl) ⟨Nat.le_of_ble_eq_true rfl, Nat.le_of_ble_eq_true rfl⟩ (Nat.le_of_ble_eq_true rfl) rfl rfl ?_
    refine sp_X5_wantNumber_y hv B hk Tk g1 (M := 3) (by decide) rfl c (fun h1 F1 T1 g1 => ?_)
    have hk := (tB_le (T := T) hk).2
    have Q := Q.tr F1.fy
    have R := F1.rm (by decide) R
    have hv := F1.inv hv
    have B := F1.mt B
    have Tk := T1
    refine ok_istore_n (lo' := [_, _, _, _]) dX5_wantLet_10 rfl (Nat.le_of_ble_eq_true rfl) rfl rfl ?_
    refine ok_aload_n dX5_wantLet_11 rfl rfl ?_
    refine ok_getI dX5_wantLet_12 f_X5_210 (by first | exact is_lit hv (by decide) rfl | exact is_sq hv hq | exact is_row hv hq | exact is_pn hv hq (by assumption) | assumption) rfl ?_
    rw [g1]
    refine ok_if_eq (tgt := 25) dX5_wantLet_15 (by decide) (fun c9 => absurd c9 (by decide)) (fun _ => ?_)
    refine ok_aload_n dX5_wantLet_18 rfl rfl ?_
    refine ok_getR dX5_wantLet_19 f_X5_7 (by first | exact is_lit hv (by decide) rfl | exact is_sq hv hq | exact is_row hv hq | exact is_pn hv hq (by assumption) | assumption) rfl (by first | exact rf hv rfl | exact rf_row hv hq | assumption) ?_
    refine ok_iload_n dX5_wantLet_22 rfl rfl ?_
    refine ok_iload_n dX5_wantLet_23 rfl rfl ?_
    refine ok_iastore dX5_wantLet_24 (is_lit hv (by decide) rfl) (by unfold vp_in; decide) ?_
    refine ok_return dX5_wantLet_25 rfl ?_
    exact K _ (Q.tr (QR.rf.u rfl).fy) (Tk.qr (QR.rf.u rfl)) ((at_ua (by decide)).trans g1) (fun _ => R.u (by decide))
  · rw [show i_law T z k n r = _ from if_neg c] at K
    refine ok_aload_n dX5_wantLet_0 rfl rfl ?_
    refine ok_callV (M' := mX5_advance) (b' := (0, 0)) (As := []) (cx := 5) dX5_wantLet_1 iX5_advance w_1090 (by decide) rfl (by first | exact is_lit hv (by decide) rfl | exact is_sq hv hq | exact is_row hv hq | exact is_pn hv hq (by assumption) | assumption) rfl (Nat.le_of_ble_eq_true rfl) ⟨Nat.le_of_ble_eq_true rfl, Nat.le_of_ble_eq_true rfl⟩ (Nat.le_of_ble_eq_true rfl) rfl rfl ?_
    refine sp_X5_advance hv B (tB_le hk).2 Tk.2.2.1 (fun h1 F1 g2 T1 => ?_)
    have hk := (tB_le (T := T) hk).2
    have g1 := g2.trans g1
    have Q := Q.tr F1.fy
    have R := F1.rm (by decide) R
    have hv := F1.inv hv
    have B := F1.mt B
    have Tk := T1
    refine ok_aload_n dX5_wantLet_4 rfl rfl ?_
    refine ok_iconst (v := 0) dX5_wantLet_5 (by decide) ?_
    refine ok_iload_n dX5_wantLet_6 rfl rfl ?_
    refine ok_callV (M' := mX5_wantNumber) (b' := (0, 0)) (As := [_, _]) (cx := 5) dX5_wantLet_7 iX5_wantNumber w_1134 (by decide) rfl (by first | exact is_lit hv (by decide) rfl | exact is_sq hv hq | exact is_row hv hq | exact is_pn hv hq (by assumption) | assumption) rfl (Nat.le_of_ble_eq_true rfl) ⟨Nat.le_of_ble_eq_true rfl, Nat.le_of_ble_eq_true rfl⟩ (Nat.le_of_ble_eq_true rfl) rfl rfl ?_
    refine sp_X5_wantNumber_n hv B hk Tk g1 (M := 3) (by decide) rfl c (fun h1 v1 F1 T1 g1 => ?_)
    have Q := Q.tr F1.fy
    have R := F1.rm (by decide) R
    have hv := F1.inv hv
    have B := F1.mt B
    have Tk := T1
    refine ok_istore_n (lo' := [_, _, _, _]) dX5_wantLet_10 rfl (Nat.le_of_ble_eq_true rfl) rfl rfl ?_
    refine ok_aload_n dX5_wantLet_11 rfl rfl ?_
    refine ok_getI dX5_wantLet_12 f_X5_210 (by first | exact is_lit hv (by decide) rfl | exact is_sq hv hq | exact is_row hv hq | exact is_pn hv hq (by assumption) | assumption) rfl ?_
    rw [g1]
    refine ok_if_eq (tgt := 25) dX5_wantLet_15 (by decide) (fun _ => ?_) (fun c9 => absurd rfl c9)
    refine ok_return dX5_wantLet_25 rfl ?_
    exact K _ Q Tk g1 (fun c => absurd c Bool.false_ne_true)
theorem sp_X5_wantDiver {g : GG} {h0 h : Hp} {Post : Option Value → Hp → Prop} (hv : Inv h) {T : Nat → Nat} {z : Nat} (B : MT h T z) {k : Nat} (hk : k ≤ z) (Tk : TkM h T z k) {n : Nat} {r : Nat → Int32} (R : RM 50 h n r) (Q : FY h0 h) (g1 : hI h 49 13 = 1) (K : ∀ h', FY h0 h' → TkM h' T z (i_diver T z k n r).2.1 → hI h' 49 13 = (if (i_diver T z k n r).1 = true then 1 else 0) → ((i_diver T z k n r).1 = true → RM 50 h' (i_diver T z k n r).2.2.1 (i_diver T z k n r).2.2.2) → Post none h') : Sp g mX5_wantDiver [.ref 49] h Post := by
  show Go g mX5_wantDiver 0 [_, _, _] [] _ _ _
  by_cases w : wis T z (tB T z k) 12 = true
  · rw [show i_diver T z k n r = _ from if_pos w] at K
    have t5 := tT_le T z (tB T z (tB T z k))
    by_cases c4 : tT T z (tB T z (tB T z k)) = 4
    · rw [if_pos c4] at K
      by_cases c : num T z (tB T z (tB T z (tB T z k))) 21 = true
      · rw [show i_dv T z n r true (tB T z (tB T z (tB T z k))) = _ from if_pos c] at K
        refine ok_aload_n dX5_wantDiver_0 rfl rfl ?_
        refine ok_callV (M' := mX5_advance) (b' := (0, 0)) (As := []) (cx := 5) dX5_wantDiver_1 iX5_advance w_1090 (by decide) rfl (by first | exact is_lit hv (by decide) rfl | exact is_sq hv hq | exact is_row hv hq | exact is_pn hv hq (by assumption) | assumption) rfl (Nat.le_of_ble_eq_true rfl) ⟨Nat.le_of_ble_eq_true rfl, Nat.le_of_ble_eq_true rfl⟩ (Nat.le_of_ble_eq_true rfl) rfl rfl ?_
        refine sp_X5_advance hv B (tB_le hk).2 Tk.2.2.1 (fun h1 F1 g2 T1 => ?_)
        have hk := (tB_le (T := T) hk).2
        have g1 := g2.trans g1
        have Q := Q.tr F1.fy
        have R := F1.rm (by decide) R
        have hv := F1.inv hv
        have B := F1.mt B
        have Tk := T1
        refine ok_iconst (v := 0) dX5_wantDiver_4 (by decide) ?_
        refine ok_istore_n (lo' := [_, _, _]) dX5_wantDiver_5 rfl (Nat.le_of_ble_eq_true rfl) rfl rfl ?_
        refine ok_aload_n dX5_wantDiver_6 rfl rfl ?_
        refine ok_ldc2 dX5_wantDiver_7 w_1151 ?_
        refine ok_callV (M' := mX5_isWord) (b' := (0, 0)) (As := [_]) (cx := 5) dX5_wantDiver_10 iX5_isWord w_1116 (by decide) rfl (by first | exact is_lit hv (by decide) rfl | exact is_sq hv hq | exact is_row hv hq | exact is_pn hv hq (by assumption) | assumption) rfl (Nat.le_of_ble_eq_true rfl) ⟨Nat.le_of_ble_eq_true rfl, Nat.le_of_ble_eq_true rfl⟩ (Nat.le_of_ble_eq_true rfl) rfl rfl ?_
        refine sp_X5_isWord hv B hk Tk (i := 12) (by decide) ?_
        refine ok_if_eq (tgt := 70) dX5_wantDiver_13 (by decide) (fun c9 => absurd c9 (by rw [if_pos w]; decide)) (fun _ => ?_)
        refine ok_aload_n dX5_wantDiver_16 rfl rfl ?_
        refine ok_callV (M' := mX5_advance) (b' := (0, 0)) (As := []) (cx := 5) dX5_wantDiver_17 iX5_advance w_1090 (by decide) rfl (by first | exact is_lit hv (by decide) rfl | exact is_sq hv hq | exact is_row hv hq | exact is_pn hv hq (by assumption) | assumption) rfl (Nat.le_of_ble_eq_true rfl) ⟨Nat.le_of_ble_eq_true rfl, Nat.le_of_ble_eq_true rfl⟩ (Nat.le_of_ble_eq_true rfl) rfl rfl ?_
        refine sp_X5_advance hv B (tB_le hk).2 Tk.2.2.1 (fun h1 F1 g2 T1 => ?_)
        have hk := (tB_le (T := T) hk).2
        have g1 := g2.trans g1
        have Q := Q.tr F1.fy
        have R := F1.rm (by decide) R
        have hv := F1.inv hv
        have B := F1.mt B
        have Tk := T1
        refine ok_aload_n dX5_wantDiver_20 rfl rfl ?_
        refine ok_getI dX5_wantDiver_21 f_X5_178 (by first | exact is_lit hv (by decide) rfl | exact is_sq hv hq | exact is_row hv hq | exact is_pn hv hq (by assumption) | assumption) rfl ?_
        rw [Tk.1]
        refine ok_iconst (v := 3) dX5_wantDiver_24 (by decide) ?_
        refine ok_icmp_ne (tgt := 41) dX5_wantDiver_25 (by decide) (fun c9 => absurd c9 (fun e => e ((mn_3 t5).mpr (by omega)))) (fun _ => ?_)
        refine ok_aload_n dX5_wantDiver_28 rfl rfl ?_
        refine ok_getI dX5_wantDiver_29 f_X5_185 (by first | exact is_lit hv (by decide) rfl | exact is_sq hv hq | exact is_row hv hq | exact is_pn hv hq (by assumption) | assumption) rfl ?_
        rw [Tk.2.2.2.2.2 (by omega)]
        refine ok_bipush (v := 45) dX5_wantDiver_32 (by decide) ?_
        refine ok_icmp_ne (tgt := 41) dX5_wantDiver_34 (by decide) (fun c9 => absurd c9 (fun e => e ((sg_45 B.2.2.1 (by omega)).mpr c4))) (fun _ => ?_)
        refine ok_iconst (v := 1) dX5_wantDiver_37 (by decide) ?_
        refine ok_goto (tgt := 42) dX5_wantDiver_38 (by decide) ?_
        refine ok_istore_n (lo' := [_, _, _]) dX5_wantDiver_42 rfl (Nat.le_of_ble_eq_true rfl) rfl rfl ?_
        refine ok_iload_n dX5_wantDiver_43 rfl rfl ?_
        refine ok_if_eq (tgt := 51) dX5_wantDiver_44 (by decide) (fun c9 => absurd c9 (by decide)) (fun _ => ?_)
        refine ok_aload_n dX5_wantDiver_47 rfl rfl ?_
        refine ok_callV (M' := mX5_advance) (b' := (0, 0)) (As := []) (cx := 5) dX5_wantDiver_48 iX5_advance w_1090 (by decide) rfl (by first | exact is_lit hv (by decide) rfl | exact is_sq hv hq | exact is_row hv hq | exact is_pn hv hq (by assumption) | assumption) rfl (Nat.le_of_ble_eq_true rfl) ⟨Nat.le_of_ble_eq_true rfl, Nat.le_of_ble_eq_true rfl⟩ (Nat.le_of_ble_eq_true rfl) rfl rfl ?_
        refine sp_X5_advance hv B (tB_le hk).2 Tk.2.2.1 (fun h1 F1 g2 T1 => ?_)
        have hk := (tB_le (T := T) hk).2
        have g1 := g2.trans g1
        have Q := Q.tr F1.fy
        have R := F1.rm (by decide) R
        have hv := F1.inv hv
        have B := F1.mt B
        have Tk := T1
        refine ok_aload_n dX5_wantDiver_51 rfl rfl ?_
        refine ok_iconst (v := 0) dX5_wantDiver_52 (by decide) ?_
        refine ok_bipush (v := 20) dX5_wantDiver_53 (by decide) ?_
        refine ok_callV (M' := mX5_wantNumber) (b' := (0, 0)) (As := [_, _]) (cx := 5) dX5_wantDiver_55 iX5_wantNumber w_1134 (by decide) rfl (by first | exact is_lit hv (by decide) rfl | exact is_sq hv hq | exact is_row hv hq | exact is_pn hv hq (by assumption) | assumption) rfl (Nat.le_of_ble_eq_true rfl) ⟨Nat.le_of_ble_eq_true rfl, Nat.le_of_ble_eq_true rfl⟩ (Nat.le_of_ble_eq_true rfl) rfl rfl ?_
        refine sp_X5_wantNumber_y hv B hk Tk g1 (M := 21) (by decide) rfl c (fun h1 F1 T1 g1 => ?_)
        have hk := (tB_le (T := T) hk).2
        have Q := Q.tr F1.fy
        have R := F1.rm (by decide) R
        have hv := F1.inv hv
        have B := F1.mt B
        have Tk := T1
        refine ok_istore_n (lo' := [_, _, _]) dX5_wantDiver_58 rfl (Nat.le_of_ble_eq_true rfl) rfl rfl ?_
        refine ok_iload_n dX5_wantDiver_59 rfl rfl ?_
        refine ok_if_eq (tgt := 68) dX5_wantDiver_60 (by decide) (fun c9 => absurd c9 (by decide)) (fun _ => ?_)
        refine ok_iload_n dX5_wantDiver_63 rfl rfl ?_
        refine ok_ineg dX5_wantDiver_64 ?_
        refine ok_goto (tgt := 69) dX5_wantDiver_65 (by decide) ?_
        refine ok_istore_n (lo' := [_, _, _]) dX5_wantDiver_69 rfl (Nat.le_of_ble_eq_true rfl) rfl rfl ?_
        refine ok_aload_n dX5_wantDiver_70 rfl rfl ?_
        refine ok_getI dX5_wantDiver_71 f_X5_210 (by first | exact is_lit hv (by decide) rfl | exact is_sq hv hq | exact is_row hv hq | exact is_pn hv hq (by assumption) | assumption) rfl ?_
        rw [g1]
        refine ok_if_eq (tgt := 91) dX5_wantDiver_74 (by decide) (fun c9 => absurd c9 (by decide)) (fun _ => ?_)
        refine ok_aload_n dX5_wantDiver_77 rfl rfl ?_
        refine ok_getR dX5_wantDiver_78 f_X5_7 (by first | exact is_lit hv (by decide) rfl | exact is_sq hv hq | exact is_row hv hq | exact is_pn hv hq (by assumption) | assumption) rfl (by first | exact rf hv rfl | exact rf_row hv hq | assumption) ?_
        refine ok_iconst (v := 3) dX5_wantDiver_81 (by decide) ?_
        refine ok_iconst (v := 1) dX5_wantDiver_82 (by decide) ?_
        refine ok_iastore dX5_wantDiver_83 (is_lit hv (by decide) rfl) (by unfold vp_in; decide) ?_
        refine ok_aload_n dX5_wantDiver_84 rfl rfl ?_
        refine ok_getR dX5_wantDiver_85 f_X5_7 (by first | exact is_lit hv (by decide) rfl | exact is_sq hv hq | exact is_row hv hq | exact is_pn hv hq (by assumption) | assumption) rfl (by first | exact rf hv rfl | exact rf_row hv hq | assumption) ?_
        refine ok_iconst (v := 4) dX5_wantDiver_88 (by decide) ?_
        refine ok_iload_n dX5_wantDiver_89 rfl rfl ?_
        refine ok_iastore dX5_wantDiver_90 (is_lit hv (by decide) rfl) (by unfold vp_in; decide) ?_
        refine ok_return dX5_wantDiver_91 rfl ?_
        exact K _ (Q.tr ((QR.rf.u rfl).u rfl).fy) (Tk.qr ((QR.rf.u rfl).u rfl)) ((at_ua (by decide)).trans ((at_ua (by decide)).trans g1)) (fun _ => (R.u (k := 3) (v := 1) (by decide)).u (k := 4) (by decide))
      · rw [show i_dv T z n r true (tB T z (tB T z (tB T z k))) = _ from if_neg c] at K
        refine ok_aload_n dX5_wantDiver_0 rfl rfl ?_
        refine ok_callV (M' := mX5_advance) (b' := (0, 0)) (As := []) (cx := 5) dX5_wantDiver_1 iX5_advance w_1090 (by decide) rfl (by first | exact is_lit hv (by decide) rfl | exact is_sq hv hq | exact is_row hv hq | exact is_pn hv hq (by assumption) | assumption) rfl (Nat.le_of_ble_eq_true rfl) ⟨Nat.le_of_ble_eq_true rfl, Nat.le_of_ble_eq_true rfl⟩ (Nat.le_of_ble_eq_true rfl) rfl rfl ?_
        refine sp_X5_advance hv B (tB_le hk).2 Tk.2.2.1 (fun h1 F1 g2 T1 => ?_)
        have hk := (tB_le (T := T) hk).2
        have g1 := g2.trans g1
        have Q := Q.tr F1.fy
        have R := F1.rm (by decide) R
        have hv := F1.inv hv
        have B := F1.mt B
        have Tk := T1
        refine ok_iconst (v := 0) dX5_wantDiver_4 (by decide) ?_
        refine ok_istore_n (lo' := [_, _, _]) dX5_wantDiver_5 rfl (Nat.le_of_ble_eq_true rfl) rfl rfl ?_
        refine ok_aload_n dX5_wantDiver_6 rfl rfl ?_
        refine ok_ldc2 dX5_wantDiver_7 w_1151 ?_
        refine ok_callV (M' := mX5_isWord) (b' := (0, 0)) (As := [_]) (cx := 5) dX5_wantDiver_10 iX5_isWord w_1116 (by decide) rfl (by first | exact is_lit hv (by decide) rfl | exact is_sq hv hq | exact is_row hv hq | exact is_pn hv hq (by assumption) | assumption) rfl (Nat.le_of_ble_eq_true rfl) ⟨Nat.le_of_ble_eq_true rfl, Nat.le_of_ble_eq_true rfl⟩ (Nat.le_of_ble_eq_true rfl) rfl rfl ?_
        refine sp_X5_isWord hv B hk Tk (i := 12) (by decide) ?_
        refine ok_if_eq (tgt := 70) dX5_wantDiver_13 (by decide) (fun c9 => absurd c9 (by rw [if_pos w]; decide)) (fun _ => ?_)
        refine ok_aload_n dX5_wantDiver_16 rfl rfl ?_
        refine ok_callV (M' := mX5_advance) (b' := (0, 0)) (As := []) (cx := 5) dX5_wantDiver_17 iX5_advance w_1090 (by decide) rfl (by first | exact is_lit hv (by decide) rfl | exact is_sq hv hq | exact is_row hv hq | exact is_pn hv hq (by assumption) | assumption) rfl (Nat.le_of_ble_eq_true rfl) ⟨Nat.le_of_ble_eq_true rfl, Nat.le_of_ble_eq_true rfl⟩ (Nat.le_of_ble_eq_true rfl) rfl rfl ?_
        refine sp_X5_advance hv B (tB_le hk).2 Tk.2.2.1 (fun h1 F1 g2 T1 => ?_)
        have hk := (tB_le (T := T) hk).2
        have g1 := g2.trans g1
        have Q := Q.tr F1.fy
        have R := F1.rm (by decide) R
        have hv := F1.inv hv
        have B := F1.mt B
        have Tk := T1
        refine ok_aload_n dX5_wantDiver_20 rfl rfl ?_
        refine ok_getI dX5_wantDiver_21 f_X5_178 (by first | exact is_lit hv (by decide) rfl | exact is_sq hv hq | exact is_row hv hq | exact is_pn hv hq (by assumption) | assumption) rfl ?_
        rw [Tk.1]
        refine ok_iconst (v := 3) dX5_wantDiver_24 (by decide) ?_
        refine ok_icmp_ne (tgt := 41) dX5_wantDiver_25 (by decide) (fun c9 => absurd c9 (fun e => e ((mn_3 t5).mpr (by omega)))) (fun _ => ?_)
        refine ok_aload_n dX5_wantDiver_28 rfl rfl ?_
        refine ok_getI dX5_wantDiver_29 f_X5_185 (by first | exact is_lit hv (by decide) rfl | exact is_sq hv hq | exact is_row hv hq | exact is_pn hv hq (by assumption) | assumption) rfl ?_
        rw [Tk.2.2.2.2.2 (by omega)]
        refine ok_bipush (v := 45) dX5_wantDiver_32 (by decide) ?_
        refine ok_icmp_ne (tgt := 41) dX5_wantDiver_34 (by decide) (fun c9 => absurd c9 (fun e => e ((sg_45 B.2.2.1 (by omega)).mpr c4))) (fun _ => ?_)
        refine ok_iconst (v := 1) dX5_wantDiver_37 (by decide) ?_
        refine ok_goto (tgt := 42) dX5_wantDiver_38 (by decide) ?_
        refine ok_istore_n (lo' := [_, _, _]) dX5_wantDiver_42 rfl (Nat.le_of_ble_eq_true rfl) rfl rfl ?_
        refine ok_iload_n dX5_wantDiver_43 rfl rfl ?_
        refine ok_if_eq (tgt := 51) dX5_wantDiver_44 (by decide) (fun c9 => absurd c9 (by decide)) (fun _ => ?_)
        refine ok_aload_n dX5_wantDiver_47 rfl rfl ?_
        refine ok_callV (M' := mX5_advance) (b' := (0, 0)) (As := []) (cx := 5) dX5_wantDiver_48 iX5_advance w_1090 (by decide) rfl (by first | exact is_lit hv (by decide) rfl | exact is_sq hv hq | exact is_row hv hq | exact is_pn hv hq (by assumption) | assumption) rfl (Nat.le_of_ble_eq_true rfl) ⟨Nat.le_of_ble_eq_true rfl, Nat.le_of_ble_eq_true rfl⟩ (Nat.le_of_ble_eq_true rfl) rfl rfl ?_
        refine sp_X5_advance hv B (tB_le hk).2 Tk.2.2.1 (fun h1 F1 g2 T1 => ?_)
        have hk := (tB_le (T := T) hk).2
        have g1 := g2.trans g1
        have Q := Q.tr F1.fy
        have R := F1.rm (by decide) R
        have hv := F1.inv hv
        have B := F1.mt B
        have Tk := T1
        refine ok_aload_n dX5_wantDiver_51 rfl rfl ?_
        refine ok_iconst (v := 0) dX5_wantDiver_52 (by decide) ?_
        refine ok_bipush (v := 20) dX5_wantDiver_53 (by decide) ?_
        refine ok_callV (M' := mX5_wantNumber) (b' := (0, 0)) (As := [_, _]) (cx := 5) dX5_wantDiver_55 iX5_wantNumber w_1134 (by decide) rfl (by first | exact is_lit hv (by decide) rfl | exact is_sq hv hq | exact is_row hv hq | exact is_pn hv hq (by assumption) | assumption) rfl (Nat.le_of_ble_eq_true rfl) ⟨Nat.le_of_ble_eq_true rfl, Nat.le_of_ble_eq_true rfl⟩ (Nat.le_of_ble_eq_true rfl) rfl rfl ?_
        refine sp_X5_wantNumber_n hv B hk Tk g1 (M := 21) (by decide) rfl c (fun h1 v1 F1 T1 g1 => ?_)
        have Q := Q.tr F1.fy
        have R := F1.rm (by decide) R
        have hv := F1.inv hv
        have B := F1.mt B
        have Tk := T1
        refine ok_istore_n (lo' := [_, _, _]) dX5_wantDiver_58 rfl (Nat.le_of_ble_eq_true rfl) rfl rfl ?_
        refine ok_iload_n dX5_wantDiver_59 rfl rfl ?_
        refine ok_if_eq (tgt := 68) dX5_wantDiver_60 (by decide) (fun c9 => absurd c9 (by decide)) (fun _ => ?_)
        refine ok_iload_n dX5_wantDiver_63 rfl rfl ?_
        refine ok_ineg dX5_wantDiver_64 ?_
        refine ok_goto (tgt := 69) dX5_wantDiver_65 (by decide) ?_
        refine ok_istore_n (lo' := [_, _, _]) dX5_wantDiver_69 rfl (Nat.le_of_ble_eq_true rfl) rfl rfl ?_
        refine ok_aload_n dX5_wantDiver_70 rfl rfl ?_
        refine ok_getI dX5_wantDiver_71 f_X5_210 (by first | exact is_lit hv (by decide) rfl | exact is_sq hv hq | exact is_row hv hq | exact is_pn hv hq (by assumption) | assumption) rfl ?_
        rw [g1]
        refine ok_if_eq (tgt := 91) dX5_wantDiver_74 (by decide) (fun _ => ?_) (fun c9 => absurd rfl c9)
        refine ok_return dX5_wantDiver_91 rfl ?_
        exact K _ Q Tk g1 (fun c => absurd c Bool.false_ne_true)
    · rw [if_neg c4] at K
      by_cases c : num T z (tB T z (tB T z k)) 21 = true
      · rw [show i_dv T z n r false (tB T z (tB T z k)) = _ from if_pos c] at K
        by_cases c3 : 3 ≤ tT T z (tB T z (tB T z k))
        · refine ok_aload_n dX5_wantDiver_0 rfl rfl ?_
          refine ok_callV (M' := mX5_advance) (b' := (0, 0)) (As := []) (cx := 5) dX5_wantDiver_1 iX5_advance w_1090 (by decide) rfl (by first | exact is_lit hv (by decide) rfl | exact is_sq hv hq | exact is_row hv hq | exact is_pn hv hq (by assumption) | assumption) rfl (Nat.le_of_ble_eq_true rfl) ⟨Nat.le_of_ble_eq_true rfl, Nat.le_of_ble_eq_true rfl⟩ (Nat.le_of_ble_eq_true rfl) rfl rfl ?_
          refine sp_X5_advance hv B (tB_le hk).2 Tk.2.2.1 (fun h1 F1 g2 T1 => ?_)
          have hk := (tB_le (T := T) hk).2
          have g1 := g2.trans g1
          have Q := Q.tr F1.fy
          have R := F1.rm (by decide) R
          have hv := F1.inv hv
          have B := F1.mt B
          have Tk := T1
          refine ok_iconst (v := 0) dX5_wantDiver_4 (by decide) ?_
          refine ok_istore_n (lo' := [_, _, _]) dX5_wantDiver_5 rfl (Nat.le_of_ble_eq_true rfl) rfl rfl ?_
          refine ok_aload_n dX5_wantDiver_6 rfl rfl ?_
          refine ok_ldc2 dX5_wantDiver_7 w_1151 ?_
          refine ok_callV (M' := mX5_isWord) (b' := (0, 0)) (As := [_]) (cx := 5) dX5_wantDiver_10 iX5_isWord w_1116 (by decide) rfl (by first | exact is_lit hv (by decide) rfl | exact is_sq hv hq | exact is_row hv hq | exact is_pn hv hq (by assumption) | assumption) rfl (Nat.le_of_ble_eq_true rfl) ⟨Nat.le_of_ble_eq_true rfl, Nat.le_of_ble_eq_true rfl⟩ (Nat.le_of_ble_eq_true rfl) rfl rfl ?_
          refine sp_X5_isWord hv B hk Tk (i := 12) (by decide) ?_
          refine ok_if_eq (tgt := 70) dX5_wantDiver_13 (by decide) (fun c9 => absurd c9 (by rw [if_pos w]; decide)) (fun _ => ?_)
          refine ok_aload_n dX5_wantDiver_16 rfl rfl ?_
          refine ok_callV (M' := mX5_advance) (b' := (0, 0)) (As := []) (cx := 5) dX5_wantDiver_17 iX5_advance w_1090 (by decide) rfl (by first | exact is_lit hv (by decide) rfl | exact is_sq hv hq | exact is_row hv hq | exact is_pn hv hq (by assumption) | assumption) rfl (Nat.le_of_ble_eq_true rfl) ⟨Nat.le_of_ble_eq_true rfl, Nat.le_of_ble_eq_true rfl⟩ (Nat.le_of_ble_eq_true rfl) rfl rfl ?_
          refine sp_X5_advance hv B (tB_le hk).2 Tk.2.2.1 (fun h1 F1 g2 T1 => ?_)
          have hk := (tB_le (T := T) hk).2
          have g1 := g2.trans g1
          have Q := Q.tr F1.fy
          have R := F1.rm (by decide) R
          have hv := F1.inv hv
          have B := F1.mt B
          have Tk := T1
          refine ok_aload_n dX5_wantDiver_20 rfl rfl ?_
          refine ok_getI dX5_wantDiver_21 f_X5_178 (by first | exact is_lit hv (by decide) rfl | exact is_sq hv hq | exact is_row hv hq | exact is_pn hv hq (by assumption) | assumption) rfl ?_
          rw [Tk.1]
          refine ok_iconst (v := 3) dX5_wantDiver_24 (by decide) ?_
          refine ok_icmp_ne (tgt := 41) dX5_wantDiver_25 (by decide) (fun c9 => absurd c9 (fun e => e ((mn_3 t5).mpr c3))) (fun _ => ?_)
          refine ok_aload_n dX5_wantDiver_28 rfl rfl ?_
          refine ok_getI dX5_wantDiver_29 f_X5_185 (by first | exact is_lit hv (by decide) rfl | exact is_sq hv hq | exact is_row hv hq | exact is_pn hv hq (by assumption) | assumption) rfl ?_
          rw [Tk.2.2.2.2.2 (by omega)]
          refine ok_bipush (v := 45) dX5_wantDiver_32 (by decide) ?_
          refine ok_icmp_ne (tgt := 41) dX5_wantDiver_34 (by decide) (fun _ => ?_) (fun c9 => absurd c9 (fun e => c4 ((sg_45 B.2.2.1 c3).mp e)))
          refine ok_iconst (v := 0) dX5_wantDiver_41 (by decide) ?_
          refine ok_istore_n (lo' := [_, _, _]) dX5_wantDiver_42 rfl (Nat.le_of_ble_eq_true rfl) rfl rfl ?_
          refine ok_iload_n dX5_wantDiver_43 rfl rfl ?_
          refine ok_if_eq (tgt := 51) dX5_wantDiver_44 (by decide) (fun _ => ?_) (fun c9 => absurd rfl c9)
          refine ok_aload_n dX5_wantDiver_51 rfl rfl ?_
          refine ok_iconst (v := 0) dX5_wantDiver_52 (by decide) ?_
          refine ok_bipush (v := 20) dX5_wantDiver_53 (by decide) ?_
          refine ok_callV (M' := mX5_wantNumber) (b' := (0, 0)) (As := [_, _]) (cx := 5) dX5_wantDiver_55 iX5_wantNumber w_1134 (by decide) rfl (by first | exact is_lit hv (by decide) rfl | exact is_sq hv hq | exact is_row hv hq | exact is_pn hv hq (by assumption) | assumption) rfl (Nat.le_of_ble_eq_true rfl) ⟨Nat.le_of_ble_eq_true rfl, Nat.le_of_ble_eq_true rfl⟩ (Nat.le_of_ble_eq_true rfl) rfl rfl ?_
          refine sp_X5_wantNumber_y hv B hk Tk g1 (M := 21) (by decide) rfl c (fun h1 F1 T1 g1 => ?_)
          have hk := (tB_le (T := T) hk).2
          have Q := Q.tr F1.fy
          have R := F1.rm (by decide) R
          have hv := F1.inv hv
          have B := F1.mt B
          have Tk := T1
          refine ok_istore_n (lo' := [_, _, _]) dX5_wantDiver_58 rfl (Nat.le_of_ble_eq_true rfl) rfl rfl ?_
          refine ok_iload_n dX5_wantDiver_59 rfl rfl ?_
          refine ok_if_eq (tgt := 68) dX5_wantDiver_60 (by decide) (fun _ => ?_) (fun c9 => absurd rfl c9)
          refine ok_iload_n dX5_wantDiver_68 rfl rfl ?_
          refine ok_istore_n (lo' := [_, _, _]) dX5_wantDiver_69 rfl (Nat.le_of_ble_eq_true rfl) rfl rfl ?_
          refine ok_aload_n dX5_wantDiver_70 rfl rfl ?_
          refine ok_getI dX5_wantDiver_71 f_X5_210 (by first | exact is_lit hv (by decide) rfl | exact is_sq hv hq | exact is_row hv hq | exact is_pn hv hq (by assumption) | assumption) rfl ?_
          rw [g1]
          refine ok_if_eq (tgt := 91) dX5_wantDiver_74 (by decide) (fun c9 => absurd c9 (by decide)) (fun _ => ?_)
          refine ok_aload_n dX5_wantDiver_77 rfl rfl ?_
          refine ok_getR dX5_wantDiver_78 f_X5_7 (by first | exact is_lit hv (by decide) rfl | exact is_sq hv hq | exact is_row hv hq | exact is_pn hv hq (by assumption) | assumption) rfl (by first | exact rf hv rfl | exact rf_row hv hq | assumption) ?_
          refine ok_iconst (v := 3) dX5_wantDiver_81 (by decide) ?_
          refine ok_iconst (v := 1) dX5_wantDiver_82 (by decide) ?_
          refine ok_iastore dX5_wantDiver_83 (is_lit hv (by decide) rfl) (by unfold vp_in; decide) ?_
          refine ok_aload_n dX5_wantDiver_84 rfl rfl ?_
          refine ok_getR dX5_wantDiver_85 f_X5_7 (by first | exact is_lit hv (by decide) rfl | exact is_sq hv hq | exact is_row hv hq | exact is_pn hv hq (by assumption) | assumption) rfl (by first | exact rf hv rfl | exact rf_row hv hq | assumption) ?_
          refine ok_iconst (v := 4) dX5_wantDiver_88 (by decide) ?_
          refine ok_iload_n dX5_wantDiver_89 rfl rfl ?_
          refine ok_iastore dX5_wantDiver_90 (is_lit hv (by decide) rfl) (by unfold vp_in; decide) ?_
          refine ok_return dX5_wantDiver_91 rfl ?_
          exact K _ (Q.tr ((QR.rf.u rfl).u rfl).fy) (Tk.qr ((QR.rf.u rfl).u rfl)) ((at_ua (by decide)).trans ((at_ua (by decide)).trans g1)) (fun _ => (R.u (k := 3) (v := 1) (by decide)).u (k := 4) (by decide))
        · refine ok_aload_n dX5_wantDiver_0 rfl rfl ?_
          refine ok_callV (M' := mX5_advance) (b' := (0, 0)) (As := []) (cx := 5) dX5_wantDiver_1 iX5_advance w_1090 (by decide) rfl (by first | exact is_lit hv (by decide) rfl | exact is_sq hv hq | exact is_row hv hq | exact is_pn hv hq (by assumption) | assumption) rfl (Nat.le_of_ble_eq_true rfl) ⟨Nat.le_of_ble_eq_true rfl, Nat.le_of_ble_eq_true rfl⟩ (Nat.le_of_ble_eq_true rfl) rfl rfl ?_
          refine sp_X5_advance hv B (tB_le hk).2 Tk.2.2.1 (fun h1 F1 g2 T1 => ?_)
          have hk := (tB_le (T := T) hk).2
          have g1 := g2.trans g1
          have Q := Q.tr F1.fy
          have R := F1.rm (by decide) R
          have hv := F1.inv hv
          have B := F1.mt B
          have Tk := T1
          refine ok_iconst (v := 0) dX5_wantDiver_4 (by decide) ?_
          refine ok_istore_n (lo' := [_, _, _]) dX5_wantDiver_5 rfl (Nat.le_of_ble_eq_true rfl) rfl rfl ?_
          refine ok_aload_n dX5_wantDiver_6 rfl rfl ?_
          refine ok_ldc2 dX5_wantDiver_7 w_1151 ?_
          refine ok_callV (M' := mX5_isWord) (b' := (0, 0)) (As := [_]) (cx := 5) dX5_wantDiver_10 iX5_isWord w_1116 (by decide) rfl (by first | exact is_lit hv (by decide) rfl | exact is_sq hv hq | exact is_row hv hq | exact is_pn hv hq (by assumption) | assumption) rfl (Nat.le_of_ble_eq_true rfl) ⟨Nat.le_of_ble_eq_true rfl, Nat.le_of_ble_eq_true rfl⟩ (Nat.le_of_ble_eq_true rfl) rfl rfl ?_
          refine sp_X5_isWord hv B hk Tk (i := 12) (by decide) ?_
          refine ok_if_eq (tgt := 70) dX5_wantDiver_13 (by decide) (fun c9 => absurd c9 (by rw [if_pos w]; decide)) (fun _ => ?_)
          refine ok_aload_n dX5_wantDiver_16 rfl rfl ?_
          refine ok_callV (M' := mX5_advance) (b' := (0, 0)) (As := []) (cx := 5) dX5_wantDiver_17 iX5_advance w_1090 (by decide) rfl (by first | exact is_lit hv (by decide) rfl | exact is_sq hv hq | exact is_row hv hq | exact is_pn hv hq (by assumption) | assumption) rfl (Nat.le_of_ble_eq_true rfl) ⟨Nat.le_of_ble_eq_true rfl, Nat.le_of_ble_eq_true rfl⟩ (Nat.le_of_ble_eq_true rfl) rfl rfl ?_
          refine sp_X5_advance hv B (tB_le hk).2 Tk.2.2.1 (fun h1 F1 g2 T1 => ?_)
          have hk := (tB_le (T := T) hk).2
          have g1 := g2.trans g1
          have Q := Q.tr F1.fy
          have R := F1.rm (by decide) R
          have hv := F1.inv hv
          have B := F1.mt B
          have Tk := T1
          refine ok_aload_n dX5_wantDiver_20 rfl rfl ?_
          refine ok_getI dX5_wantDiver_21 f_X5_178 (by first | exact is_lit hv (by decide) rfl | exact is_sq hv hq | exact is_row hv hq | exact is_pn hv hq (by assumption) | assumption) rfl ?_
          rw [Tk.1]
          refine ok_iconst (v := 3) dX5_wantDiver_24 (by decide) ?_
          refine ok_icmp_ne (tgt := 41) dX5_wantDiver_25 (by decide) (fun _ => ?_) (fun c9 => absurd c9 (fun e => c3 ((mn_3 t5).mp e)))
          refine ok_iconst (v := 0) dX5_wantDiver_41 (by decide) ?_
          refine ok_istore_n (lo' := [_, _, _]) dX5_wantDiver_42 rfl (Nat.le_of_ble_eq_true rfl) rfl rfl ?_
          refine ok_iload_n dX5_wantDiver_43 rfl rfl ?_
          refine ok_if_eq (tgt := 51) dX5_wantDiver_44 (by decide) (fun _ => ?_) (fun c9 => absurd rfl c9)
          refine ok_aload_n dX5_wantDiver_51 rfl rfl ?_
          refine ok_iconst (v := 0) dX5_wantDiver_52 (by decide) ?_
          refine ok_bipush (v := 20) dX5_wantDiver_53 (by decide) ?_
          refine ok_callV (M' := mX5_wantNumber) (b' := (0, 0)) (As := [_, _]) (cx := 5) dX5_wantDiver_55 iX5_wantNumber w_1134 (by decide) rfl (by first | exact is_lit hv (by decide) rfl | exact is_sq hv hq | exact is_row hv hq | exact is_pn hv hq (by assumption) | assumption) rfl (Nat.le_of_ble_eq_true rfl) ⟨Nat.le_of_ble_eq_true rfl, Nat.le_of_ble_eq_true rfl⟩ (Nat.le_of_ble_eq_true rfl) rfl rfl ?_
          refine sp_X5_wantNumber_y hv B hk Tk g1 (M := 21) (by decide) rfl c (fun h1 F1 T1 g1 => ?_)
          have hk := (tB_le (T := T) hk).2
          have Q := Q.tr F1.fy
          have R := F1.rm (by decide) R
          have hv := F1.inv hv
          have B := F1.mt B
          have Tk := T1
          refine ok_istore_n (lo' := [_, _, _]) dX5_wantDiver_58 rfl (Nat.le_of_ble_eq_true rfl) rfl rfl ?_
          refine ok_iload_n dX5_wantDiver_59 rfl rfl ?_
          refine ok_if_eq (tgt := 68) dX5_wantDiver_60 (by decide) (fun _ => ?_) (fun c9 => absurd rfl c9)
          refine ok_iload_n dX5_wantDiver_68 rfl rfl ?_
          refine ok_istore_n (lo' := [_, _, _]) dX5_wantDiver_69 rfl (Nat.le_of_ble_eq_true rfl) rfl rfl ?_
          refine ok_aload_n dX5_wantDiver_70 rfl rfl ?_
          refine ok_getI dX5_wantDiver_71 f_X5_210 (by first | exact is_lit hv (by decide) rfl | exact is_sq hv hq | exact is_row hv hq | exact is_pn hv hq (by assumption) | assumption) rfl ?_
          rw [g1]
          refine ok_if_eq (tgt := 91) dX5_wantDiver_74 (by decide) (fun c9 => absurd c9 (by decide)) (fun _ => ?_)
          refine ok_aload_n dX5_wantDiver_77 rfl rfl ?_
          refine ok_getR dX5_wantDiver_78 f_X5_7 (by first | exact is_lit hv (by decide) rfl | exact is_sq hv hq | exact is_row hv hq | exact is_pn hv hq (by assumption) | assumption) rfl (by first | exact rf hv rfl | exact rf_row hv hq | assumption) ?_
          refine ok_iconst (v := 3) dX5_wantDiver_81 (by decide) ?_
          refine ok_iconst (v := 1) dX5_wantDiver_82 (by decide) ?_
          refine ok_iastore dX5_wantDiver_83 (is_lit hv (by decide) rfl) (by unfold vp_in; decide) ?_
          refine ok_aload_n dX5_wantDiver_84 rfl rfl ?_
          refine ok_getR dX5_wantDiver_85 f_X5_7 (by first | exact is_lit hv (by decide) rfl | exact is_sq hv hq | exact is_row hv hq | exact is_pn hv hq (by assumption) | assumption) rfl (by first | exact rf hv rfl | exact rf_row hv hq | assumption) ?_
          refine ok_iconst (v := 4) dX5_wantDiver_88 (by decide) ?_
          refine ok_iload_n dX5_wantDiver_89 rfl rfl ?_
          refine ok_iastore dX5_wantDiver_90 (is_lit hv (by decide) rfl) (by unfold vp_in; decide) ?_
          refine ok_return dX5_wantDiver_91 rfl ?_
          exact K _ (Q.tr ((QR.rf.u rfl).u rfl).fy) (Tk.qr ((QR.rf.u rfl).u rfl)) ((at_ua (by decide)).trans ((at_ua (by decide)).trans g1)) (fun _ => (R.u (k := 3) (v := 1) (by decide)).u (k := 4) (by decide))
      · rw [show i_dv T z n r false (tB T z (tB T z k)) = _ from if_neg c] at K
        by_cases c3 : 3 ≤ tT T z (tB T z (tB T z k))
        · refine ok_aload_n dX5_wantDiver_0 rfl rfl ?_
          refine ok_callV (M' := mX5_advance) (b' := (0, 0)) (As := []) (cx := 5) dX5_wantDiver_1 iX5_advance w_1090 (by decide) rfl (by first | exact is_lit hv (by decide) rfl | exact is_sq hv hq | exact is_row hv hq | exact is_pn hv hq (by assumption) | assumption) rfl (Nat.le_of_ble_eq_true rfl) ⟨Nat.le_of_ble_eq_true rfl, Nat.le_of_ble_eq_true rfl⟩ (Nat.le_of_ble_eq_true rfl) rfl rfl ?_
          refine sp_X5_advance hv B (tB_le hk).2 Tk.2.2.1 (fun h1 F1 g2 T1 => ?_)
          have hk := (tB_le (T := T) hk).2
          have g1 := g2.trans g1
          have Q := Q.tr F1.fy
          have R := F1.rm (by decide) R
          have hv := F1.inv hv
          have B := F1.mt B
          have Tk := T1
          refine ok_iconst (v := 0) dX5_wantDiver_4 (by decide) ?_
          refine ok_istore_n (lo' := [_, _, _]) dX5_wantDiver_5 rfl (Nat.le_of_ble_eq_true rfl) rfl rfl ?_
          refine ok_aload_n dX5_wantDiver_6 rfl rfl ?_
          refine ok_ldc2 dX5_wantDiver_7 w_1151 ?_
          refine ok_callV (M' := mX5_isWord) (b' := (0, 0)) (As := [_]) (cx := 5) dX5_wantDiver_10 iX5_isWord w_1116 (by decide) rfl (by first | exact is_lit hv (by decide) rfl | exact is_sq hv hq | exact is_row hv hq | exact is_pn hv hq (by assumption) | assumption) rfl (Nat.le_of_ble_eq_true rfl) ⟨Nat.le_of_ble_eq_true rfl, Nat.le_of_ble_eq_true rfl⟩ (Nat.le_of_ble_eq_true rfl) rfl rfl ?_
          refine sp_X5_isWord hv B hk Tk (i := 12) (by decide) ?_
          refine ok_if_eq (tgt := 70) dX5_wantDiver_13 (by decide) (fun c9 => absurd c9 (by rw [if_pos w]; decide)) (fun _ => ?_)
          refine ok_aload_n dX5_wantDiver_16 rfl rfl ?_
          refine ok_callV (M' := mX5_advance) (b' := (0, 0)) (As := []) (cx := 5) dX5_wantDiver_17 iX5_advance w_1090 (by decide) rfl (by first | exact is_lit hv (by decide) rfl | exact is_sq hv hq | exact is_row hv hq | exact is_pn hv hq (by assumption) | assumption) rfl (Nat.le_of_ble_eq_true rfl) ⟨Nat.le_of_ble_eq_true rfl, Nat.le_of_ble_eq_true rfl⟩ (Nat.le_of_ble_eq_true rfl) rfl rfl ?_
          refine sp_X5_advance hv B (tB_le hk).2 Tk.2.2.1 (fun h1 F1 g2 T1 => ?_)
          have hk := (tB_le (T := T) hk).2
          have g1 := g2.trans g1
          have Q := Q.tr F1.fy
          have R := F1.rm (by decide) R
          have hv := F1.inv hv
          have B := F1.mt B
          have Tk := T1
          refine ok_aload_n dX5_wantDiver_20 rfl rfl ?_
          refine ok_getI dX5_wantDiver_21 f_X5_178 (by first | exact is_lit hv (by decide) rfl | exact is_sq hv hq | exact is_row hv hq | exact is_pn hv hq (by assumption) | assumption) rfl ?_
          rw [Tk.1]
          refine ok_iconst (v := 3) dX5_wantDiver_24 (by decide) ?_
          refine ok_icmp_ne (tgt := 41) dX5_wantDiver_25 (by decide) (fun c9 => absurd c9 (fun e => e ((mn_3 t5).mpr c3))) (fun _ => ?_)
          refine ok_aload_n dX5_wantDiver_28 rfl rfl ?_
          refine ok_getI dX5_wantDiver_29 f_X5_185 (by first | exact is_lit hv (by decide) rfl | exact is_sq hv hq | exact is_row hv hq | exact is_pn hv hq (by assumption) | assumption) rfl ?_
          rw [Tk.2.2.2.2.2 (by omega)]
          refine ok_bipush (v := 45) dX5_wantDiver_32 (by decide) ?_
          refine ok_icmp_ne (tgt := 41) dX5_wantDiver_34 (by decide) (fun _ => ?_) (fun c9 => absurd c9 (fun e => c4 ((sg_45 B.2.2.1 c3).mp e)))
          refine ok_iconst (v := 0) dX5_wantDiver_41 (by decide) ?_
          refine ok_istore_n (lo' := [_, _, _]) dX5_wantDiver_42 rfl (Nat.le_of_ble_eq_true rfl) rfl rfl ?_
          refine ok_iload_n dX5_wantDiver_43 rfl rfl ?_
          refine ok_if_eq (tgt := 51) dX5_wantDiver_44 (by decide) (fun _ => ?_) (fun c9 => absurd rfl c9)
          refine ok_aload_n dX5_wantDiver_51 rfl rfl ?_
          refine ok_iconst (v := 0) dX5_wantDiver_52 (by decide) ?_
          refine ok_bipush (v := 20) dX5_wantDiver_53 (by decide) ?_
          refine ok_callV (M' := mX5_wantNumber) (b' := (0, 0)) (As := [_, _]) (cx := 5) dX5_wantDiver_55 iX5_wantNumber w_1134 (by decide) rfl (by first | exact is_lit hv (by decide) rfl | exact is_sq hv hq | exact is_row hv hq | exact is_pn hv hq (by assumption) | assumption) rfl (Nat.le_of_ble_eq_true rfl) ⟨Nat.le_of_ble_eq_true rfl, Nat.le_of_ble_eq_true rfl⟩ (Nat.le_of_ble_eq_true rfl) rfl rfl ?_
          refine sp_X5_wantNumber_n hv B hk Tk g1 (M := 21) (by decide) rfl c (fun h1 v1 F1 T1 g1 => ?_)
          have Q := Q.tr F1.fy
          have R := F1.rm (by decide) R
          have hv := F1.inv hv
          have B := F1.mt B
          have Tk := T1
          refine ok_istore_n (lo' := [_, _, _]) dX5_wantDiver_58 rfl (Nat.le_of_ble_eq_true rfl) rfl rfl ?_
          refine ok_iload_n dX5_wantDiver_59 rfl rfl ?_
          refine ok_if_eq (tgt := 68) dX5_wantDiver_60 (by decide) (fun _ => ?_) (fun c9 => absurd rfl c9)
          refine ok_iload_n dX5_wantDiver_68 rfl rfl ?_
          refine ok_istore_n (lo' := [_, _, _]) dX5_wantDiver_69 rfl (Nat.le_of_ble_eq_true rfl) rfl rfl ?_
          refine ok_aload_n dX5_wantDiver_70 rfl rfl ?_
          refine ok_getI dX5_wantDiver_71 f_X5_210 (by first | exact is_lit hv (by decide) rfl | exact is_sq hv hq | exact is_row hv hq | exact is_pn hv hq (by assumption) | assumption) rfl ?_
          rw [g1]
          refine ok_if_eq (tgt := 91) dX5_wantDiver_74 (by decide) (fun _ => ?_) (fun c9 => absurd rfl c9)
          refine ok_return dX5_wantDiver_91 rfl ?_
          exact K _ Q Tk g1 (fun c => absurd c Bool.false_ne_true)
        · refine ok_aload_n dX5_wantDiver_0 rfl rfl ?_
          refine ok_callV (M' := mX5_advance) (b' := (0, 0)) (As := []) (cx := 5) dX5_wantDiver_1 iX5_advance w_1090 (by decide) rfl (by first | exact is_lit hv (by decide) rfl | exact is_sq hv hq | exact is_row hv hq | exact is_pn hv hq (by assumption) | assumption) rfl (Nat.le_of_ble_eq_true rfl) ⟨Nat.le_of_ble_eq_true rfl, Nat.le_of_ble_eq_true rfl⟩ (Nat.le_of_ble_eq_true rfl) rfl rfl ?_
          refine sp_X5_advance hv B (tB_le hk).2 Tk.2.2.1 (fun h1 F1 g2 T1 => ?_)
          have hk := (tB_le (T := T) hk).2
          have g1 := g2.trans g1
          have Q := Q.tr F1.fy
          have R := F1.rm (by decide) R
          have hv := F1.inv hv
          have B := F1.mt B
          have Tk := T1
          refine ok_iconst (v := 0) dX5_wantDiver_4 (by decide) ?_
          refine ok_istore_n (lo' := [_, _, _]) dX5_wantDiver_5 rfl (Nat.le_of_ble_eq_true rfl) rfl rfl ?_
          refine ok_aload_n dX5_wantDiver_6 rfl rfl ?_
          refine ok_ldc2 dX5_wantDiver_7 w_1151 ?_
          refine ok_callV (M' := mX5_isWord) (b' := (0, 0)) (As := [_]) (cx := 5) dX5_wantDiver_10 iX5_isWord w_1116 (by decide) rfl (by first | exact is_lit hv (by decide) rfl | exact is_sq hv hq | exact is_row hv hq | exact is_pn hv hq (by assumption) | assumption) rfl (Nat.le_of_ble_eq_true rfl) ⟨Nat.le_of_ble_eq_true rfl, Nat.le_of_ble_eq_true rfl⟩ (Nat.le_of_ble_eq_true rfl) rfl rfl ?_
          refine sp_X5_isWord hv B hk Tk (i := 12) (by decide) ?_
          refine ok_if_eq (tgt := 70) dX5_wantDiver_13 (by decide) (fun c9 => absurd c9 (by rw [if_pos w]; decide)) (fun _ => ?_)
          refine ok_aload_n dX5_wantDiver_16 rfl rfl ?_
          refine ok_callV (M' := mX5_advance) (b' := (0, 0)) (As := []) (cx := 5) dX5_wantDiver_17 iX5_advance w_1090 (by decide) rfl (by first | exact is_lit hv (by decide) rfl | exact is_sq hv hq | exact is_row hv hq | exact is_pn hv hq (by assumption) | assumption) rfl (Nat.le_of_ble_eq_true rfl) ⟨Nat.le_of_ble_eq_true rfl, Nat.le_of_ble_eq_true rfl⟩ (Nat.le_of_ble_eq_true rfl) rfl rfl ?_
          refine sp_X5_advance hv B (tB_le hk).2 Tk.2.2.1 (fun h1 F1 g2 T1 => ?_)
          have hk := (tB_le (T := T) hk).2
          have g1 := g2.trans g1
          have Q := Q.tr F1.fy
          have R := F1.rm (by decide) R
          have hv := F1.inv hv
          have B := F1.mt B
          have Tk := T1
          refine ok_aload_n dX5_wantDiver_20 rfl rfl ?_
          refine ok_getI dX5_wantDiver_21 f_X5_178 (by first | exact is_lit hv (by decide) rfl | exact is_sq hv hq | exact is_row hv hq | exact is_pn hv hq (by assumption) | assumption) rfl ?_
          rw [Tk.1]
          refine ok_iconst (v := 3) dX5_wantDiver_24 (by decide) ?_
          refine ok_icmp_ne (tgt := 41) dX5_wantDiver_25 (by decide) (fun _ => ?_) (fun c9 => absurd c9 (fun e => c3 ((mn_3 t5).mp e)))
          refine ok_iconst (v := 0) dX5_wantDiver_41 (by decide) ?_
          refine ok_istore_n (lo' := [_, _, _]) dX5_wantDiver_42 rfl (Nat.le_of_ble_eq_true rfl) rfl rfl ?_
          refine ok_iload_n dX5_wantDiver_43 rfl rfl ?_
          refine ok_if_eq (tgt := 51) dX5_wantDiver_44 (by decide) (fun _ => ?_) (fun c9 => absurd rfl c9)
          refine ok_aload_n dX5_wantDiver_51 rfl rfl ?_
          refine ok_iconst (v := 0) dX5_wantDiver_52 (by decide) ?_
          refine ok_bipush (v := 20) dX5_wantDiver_53 (by decide) ?_
          refine ok_callV (M' := mX5_wantNumber) (b' := (0, 0)) (As := [_, _]) (cx := 5) dX5_wantDiver_55 iX5_wantNumber w_1134 (by decide) rfl (by first | exact is_lit hv (by decide) rfl | exact is_sq hv hq | exact is_row hv hq | exact is_pn hv hq (by assumption) | assumption) rfl (Nat.le_of_ble_eq_true rfl) ⟨Nat.le_of_ble_eq_true rfl, Nat.le_of_ble_eq_true rfl⟩ (Nat.le_of_ble_eq_true rfl) rfl rfl ?_
          refine sp_X5_wantNumber_n hv B hk Tk g1 (M := 21) (by decide) rfl c (fun h1 v1 F1 T1 g1 => ?_)
          have Q := Q.tr F1.fy
          have R := F1.rm (by decide) R
          have hv := F1.inv hv
          have B := F1.mt B
          have Tk := T1
          refine ok_istore_n (lo' := [_, _, _]) dX5_wantDiver_58 rfl (Nat.le_of_ble_eq_true rfl) rfl rfl ?_
          refine ok_iload_n dX5_wantDiver_59 rfl rfl ?_
          refine ok_if_eq (tgt := 68) dX5_wantDiver_60 (by decide) (fun _ => ?_) (fun c9 => absurd rfl c9)
          refine ok_iload_n dX5_wantDiver_68 rfl rfl ?_
          refine ok_istore_n (lo' := [_, _, _]) dX5_wantDiver_69 rfl (Nat.le_of_ble_eq_true rfl) rfl rfl ?_
          refine ok_aload_n dX5_wantDiver_70 rfl rfl ?_
          refine ok_getI dX5_wantDiver_71 f_X5_210 (by first | exact is_lit hv (by decide) rfl | exact is_sq hv hq | exact is_row hv hq | exact is_pn hv hq (by assumption) | assumption) rfl ?_
          rw [g1]
          refine ok_if_eq (tgt := 91) dX5_wantDiver_74 (by decide) (fun _ => ?_) (fun c9 => absurd rfl c9)
          refine ok_return dX5_wantDiver_91 rfl ?_
          exact K _ Q Tk g1 (fun c => absurd c Bool.false_ne_true)
  · rw [show i_diver T z k n r = _ from if_neg w] at K
    refine ok_aload_n dX5_wantDiver_0 rfl rfl ?_
    refine ok_callV (M' := mX5_advance) (b' := (0, 0)) (As := []) (cx := 5) dX5_wantDiver_1 iX5_advance w_1090 (by decide) rfl (by first | exact is_lit hv (by decide) rfl | exact is_sq hv hq | exact is_row hv hq | exact is_pn hv hq (by assumption) | assumption) rfl (Nat.le_of_ble_eq_true rfl) ⟨Nat.le_of_ble_eq_true rfl, Nat.le_of_ble_eq_true rfl⟩ (Nat.le_of_ble_eq_true rfl) rfl rfl ?_
    refine sp_X5_advance hv B (tB_le hk).2 Tk.2.2.1 (fun h1 F1 g2 T1 => ?_)
    have hk := (tB_le (T := T) hk).2
    have g1 := g2.trans g1
    have Q := Q.tr F1.fy
    have R := F1.rm (by decide) R
    have hv := F1.inv hv
    have B := F1.mt B
    have Tk := T1
    refine ok_iconst (v := 0) dX5_wantDiver_4 (by decide) ?_
    refine ok_istore_n (lo' := [_, _, _]) dX5_wantDiver_5 rfl (Nat.le_of_ble_eq_true rfl) rfl rfl ?_
    refine ok_aload_n dX5_wantDiver_6 rfl rfl ?_
    refine ok_ldc2 dX5_wantDiver_7 w_1151 ?_
    refine ok_callV (M' := mX5_isWord) (b' := (0, 0)) (As := [_]) (cx := 5) dX5_wantDiver_10 iX5_isWord w_1116 (by decide) rfl (by first | exact is_lit hv (by decide) rfl | exact is_sq hv hq | exact is_row hv hq | exact is_pn hv hq (by assumption) | assumption) rfl (Nat.le_of_ble_eq_true rfl) ⟨Nat.le_of_ble_eq_true rfl, Nat.le_of_ble_eq_true rfl⟩ (Nat.le_of_ble_eq_true rfl) rfl rfl ?_
    refine sp_X5_isWord hv B hk Tk (i := 12) (by decide) ?_
    refine ok_if_eq (tgt := 70) dX5_wantDiver_13 (by decide) (fun _ => ?_) (fun c9 => absurd (if_neg w) c9)
    refine ok_aload_n dX5_wantDiver_70 rfl rfl ?_
    refine ok_getI dX5_wantDiver_71 f_X5_210 (by first | exact is_lit hv (by decide) rfl | exact is_sq hv hq | exact is_row hv hq | exact is_pn hv hq (by assumption) | assumption) rfl ?_
    rw [g1]
    refine ok_if_eq (tgt := 91) dX5_wantDiver_74 (by decide) (fun c9 => absurd c9 (by decide)) (fun _ => ?_)
    refine ok_aload_n dX5_wantDiver_77 rfl rfl ?_
    refine ok_getR dX5_wantDiver_78 f_X5_7 (by first | exact is_lit hv (by decide) rfl | exact is_sq hv hq | exact is_row hv hq | exact is_pn hv hq (by assumption) | assumption) rfl (by first | exact rf hv rfl | exact rf_row hv hq | assumption) ?_
    refine ok_iconst (v := 3) dX5_wantDiver_81 (by decide) ?_
    refine ok_iconst (v := 1) dX5_wantDiver_82 (by decide) ?_
    refine ok_iastore dX5_wantDiver_83 (is_lit hv (by decide) rfl) (by unfold vp_in; decide) ?_
    refine ok_aload_n dX5_wantDiver_84 rfl rfl ?_
    refine ok_getR dX5_wantDiver_85 f_X5_7 (by first | exact is_lit hv (by decide) rfl | exact is_sq hv hq | exact is_row hv hq | exact is_pn hv hq (by assumption) | assumption) rfl (by first | exact rf hv rfl | exact rf_row hv hq | assumption) ?_
    refine ok_iconst (v := 4) dX5_wantDiver_88 (by decide) ?_
    refine ok_iload_n dX5_wantDiver_89 rfl rfl ?_
    refine ok_iastore dX5_wantDiver_90 (is_lit hv (by decide) rfl) (by unfold vp_in; decide) ?_
    refine ok_return dX5_wantDiver_91 rfl ?_
    exact K _ (Q.tr ((QR.rf.u rfl).u rfl).fy) (Tk.qr ((QR.rf.u rfl).u rfl)) ((at_ua (by decide)).trans ((at_ua (by decide)).trans g1)) (fun _ => (R.u (k := 3) (v := 1) (by decide)).u (k := 4) (by decide))
theorem sp_X5_wantSwap {g : GG} {h0 h : Hp} {Post : Option Value → Hp → Prop} (hv : Inv h) {T : Nat → Nat} {z : Nat} (B : MT h T z) {k : Nat} (hk : k ≤ z) (Tk : TkM h T z k) {n : Nat} {r : Nat → Int32} (R : RM 50 h n r) (Q : FY h0 h) (g1 : hI h 49 13 = 1) (K : ∀ h', FY h0 h' → TkM h' T z (i_swap T z k n r).2.1 → hI h' 49 13 = (if (i_swap T z k n r).1 = true then 1 else 0) → ((i_swap T z k n r).1 = true → RM 50 h' (i_swap T z k n r).2.2.1 (i_swap T z k n r).2.2.2) → Post none h') : Sp g mX5_wantSwap [.ref 49] h Post := by
  show Go g mX5_wantSwap 0 [_, _, _] [] _ _ _
  have hn := R.1
  by_cases c : num T z (tB T z k) n = true
  · rw [show i_swap T z k n r = _ from if_pos c] at K
    have l1 := (of_decide_eq_true c).2
    have t5 := tT_le T z (tB T z (tB T z k))
    by_cases t2 : tT T z (tB T z (tB T z k)) = 2
    · by_cases c3 : tN T z (tB T z (tB T z k)) = tN T z (tB T z k)
      · have eR : (if num T z (tB T z (tB T z k)) n = true then (if tN T z (tB T z (tB T z k)) = tN T z (tB T z k) then i_no (tB T z (tB T z k)) else (true, tB T z (tB T z (tB T z k)), n, w_pm r (sw (tN T z (tB T z k)) (tN T z (tB T z (tB T z k)))))) else i_no (tB T z (tB T z k))) = i_no (tB T z (tB T z k)) := by
          by_cases q : num T z (tB T z (tB T z k)) n = true
          · rw [if_pos q, if_pos c3]
          · rw [if_neg q]
        rw [eR] at K
        refine ok_aload_n dX5_wantSwap_0 rfl rfl ?_
        refine ok_callV (M' := mX5_advance) (b' := (0, 0)) (As := []) (cx := 5) dX5_wantSwap_1 iX5_advance w_1090 (by decide) rfl (by first | exact is_lit hv (by decide) rfl | exact is_sq hv hq | exact is_row hv hq | exact is_pn hv hq (by assumption) | assumption) rfl (Nat.le_of_ble_eq_true rfl) ⟨Nat.le_of_ble_eq_true rfl, Nat.le_of_ble_eq_true rfl⟩ (Nat.le_of_ble_eq_true rfl) rfl rfl ?_
        refine sp_X5_advance hv B (tB_le hk).2 Tk.2.2.1 (fun h1 F1 g2 T1 => ?_)
        have hk := (tB_le (T := T) hk).2
        have g1 := g2.trans g1
        have Q := Q.tr F1.fy
        have R := F1.rm (by decide) R
        have hv := F1.inv hv
        have B := F1.mt B
        have Tk := T1
        refine ok_aload_n dX5_wantSwap_4 rfl rfl ?_
        refine ok_iconst (v := 0) dX5_wantSwap_5 (by decide) ?_
        refine ok_aload_n dX5_wantSwap_6 rfl rfl ?_
        refine ok_getR dX5_wantSwap_7 f_X5_7 (by first | exact is_lit hv (by decide) rfl | exact is_sq hv hq | exact is_row hv hq | exact is_pn hv hq (by assumption) | assumption) rfl (by first | exact rf hv rfl | exact rf_row hv hq | assumption) ?_
        refine ok_iconst (v := 0) dX5_wantSwap_10 (by decide) ?_
        refine ok_iaload dX5_wantSwap_11 (is_lit hv (by decide) rfl) (by unfold vp_in; decide) ?_
        rw [show hI _ 50 (Int32.toNatClampNeg 0) = nI n from (R.2.2.1 0 (by decide)).trans R.2.1]
        refine ok_iconst (v := 1) dX5_wantSwap_12 (by decide) ?_
        refine ok_isub dX5_wantSwap_13 ?_
        refine ok_callV (M' := mX5_wantNumber) (b' := (0, 0)) (As := [_, _]) (cx := 5) dX5_wantSwap_14 iX5_wantNumber w_1134 (by decide) rfl (by first | exact is_lit hv (by decide) rfl | exact is_sq hv hq | exact is_row hv hq | exact is_pn hv hq (by assumption) | assumption) rfl (Nat.le_of_ble_eq_true rfl) ⟨Nat.le_of_ble_eq_true rfl, Nat.le_of_ble_eq_true rfl⟩ (Nat.le_of_ble_eq_true rfl) rfl rfl ?_
        refine sp_X5_wantNumber_y hv B hk Tk g1 (M := n) (by omega) rfl c (fun h2 F1 T1 g1 => ?_)
        have hk := (tB_le (T := T) hk).2
        have Q := Q.tr F1.fy
        have R := F1.rm (by decide) R
        have hv := F1.inv hv
        have B := F1.mt B
        have Tk := T1
        refine ok_istore_n (lo' := [_, _, _]) dX5_wantSwap_17 rfl (Nat.le_of_ble_eq_true rfl) rfl rfl ?_
        refine ok_aload_n dX5_wantSwap_18 rfl rfl ?_
        refine ok_aload_n dX5_wantSwap_19 rfl rfl ?_
        refine ok_getI dX5_wantSwap_20 f_X5_210 (by first | exact is_lit hv (by decide) rfl | exact is_sq hv hq | exact is_row hv hq | exact is_pn hv hq (by assumption) | assumption) rfl ?_
        rw [g1]
        refine ok_if_eq (tgt := 46) dX5_wantSwap_23 (by decide) (fun c9 => absurd c9 (by decide)) (fun _ => ?_)
        refine ok_aload_n dX5_wantSwap_26 rfl rfl ?_
        refine ok_getI dX5_wantSwap_27 f_X5_178 (by first | exact is_lit hv (by decide) rfl | exact is_sq hv hq | exact is_row hv hq | exact is_pn hv hq (by assumption) | assumption) rfl ?_
        rw [Tk.1]
        refine ok_iconst (v := 2) dX5_wantSwap_30 (by decide) ?_
        refine ok_icmp_ne (tgt := 46) dX5_wantSwap_31 (by decide) (fun c9 => absurd c9 (fun e => e ((mn_2 t5).mpr t2))) (fun _ => ?_)
        refine ok_aload_n dX5_wantSwap_34 rfl rfl ?_
        refine ok_getI dX5_wantSwap_35 f_X5_185 (by first | exact is_lit hv (by decide) rfl | exact is_sq hv hq | exact is_row hv hq | exact is_pn hv hq (by assumption) | assumption) rfl ?_
        rw [Tk.2.2.2.2.1 t2]
        refine ok_iload_n dX5_wantSwap_38 rfl rfl ?_
        refine ok_icmp_eq (tgt := 46) dX5_wantSwap_39 (by decide) (fun _ => ?_) (fun c9 => absurd (by rw [c3]) c9)
        refine ok_iconst (v := 0) dX5_wantSwap_46 (by decide) ?_
        refine ok_putI dX5_wantSwap_47 f_X5_210 (by first | exact is_lit hv (by decide) rfl | exact is_sq hv hq | exact is_row hv hq | exact is_pn hv hq (by assumption) | assumption) rfl rfl rfl rfl ?_
        have Q := Q.tr (FA.g (h := h2) (v := 0)).fy
        have R := (FA.g (h := h2) (v := 0)).rm (by decide) R
        have B := (FA.g (h := h2) (v := 0)).mt B
        have Tk := Tk.g (v := 0)
        have g1 : hI (uI h2 49 13 0) 49 13 = 0 := at_uI
        have hv : Inv (uI h2 49 13 0) := hv
        refine ok_aload_n dX5_wantSwap_50 rfl rfl ?_
        refine ok_iconst (v := 0) dX5_wantSwap_51 (by decide) ?_
        refine ok_aload_n dX5_wantSwap_52 rfl rfl ?_
        refine ok_getR dX5_wantSwap_53 f_X5_7 (by first | exact is_lit hv (by decide) rfl | exact is_sq hv hq | exact is_row hv hq | exact is_pn hv hq (by assumption) | assumption) rfl (by first | exact rf hv rfl | exact rf_row hv hq | assumption) ?_
        refine ok_iconst (v := 0) dX5_wantSwap_56 (by decide) ?_
        refine ok_iaload dX5_wantSwap_57 (is_lit hv (by decide) rfl) (by unfold vp_in; decide) ?_
        rw [show hI _ 50 (Int32.toNatClampNeg 0) = nI n from (R.2.2.1 0 (by decide)).trans R.2.1]
        refine ok_iconst (v := 1) dX5_wantSwap_58 (by decide) ?_
        refine ok_isub dX5_wantSwap_59 ?_
        refine ok_callV (M' := mX5_wantNumber) (b' := (0, 0)) (As := [_, _]) (cx := 5) dX5_wantSwap_60 iX5_wantNumber w_1134 (by decide) rfl (by first | exact is_lit hv (by decide) rfl | exact is_sq hv hq | exact is_row hv hq | exact is_pn hv hq (by assumption) | assumption) rfl (Nat.le_of_ble_eq_true rfl) ⟨Nat.le_of_ble_eq_true rfl, Nat.le_of_ble_eq_true rfl⟩ (Nat.le_of_ble_eq_true rfl) rfl rfl ?_
        refine sp_X5_wantNumber_z hv B hk Tk g1 _ _ (fun h1 v1 F1 T1 g1 => ?_)
        have Q := Q.tr F1.fy
        have R := F1.rm (by decide) R
        have hv := F1.inv hv
        have B := F1.mt B
        have Tk := T1
        refine ok_istore_n (lo' := [_, _, _]) dX5_wantSwap_63 rfl (Nat.le_of_ble_eq_true rfl) rfl rfl ?_
        refine ok_aload_n dX5_wantSwap_64 rfl rfl ?_
        refine ok_getI dX5_wantSwap_65 f_X5_210 (by first | exact is_lit hv (by decide) rfl | exact is_sq hv hq | exact is_row hv hq | exact is_pn hv hq (by assumption) | assumption) rfl ?_
        rw [g1]
        refine ok_if_eq (tgt := 77) dX5_wantSwap_68 (by decide) (fun _ => ?_) (fun c9 => absurd rfl c9)
        refine ok_return dX5_wantSwap_77 rfl ?_
        exact K _ Q Tk g1 (fun c => absurd c Bool.false_ne_true)
      · by_cases c2 : num T z (tB T z (tB T z k)) n = true
        · rw [if_pos c2, if_neg c3] at K
          have l2 := (of_decide_eq_true c2).2
          refine ok_aload_n dX5_wantSwap_0 rfl rfl ?_
          refine ok_callV (M' := mX5_advance) (b' := (0, 0)) (As := []) (cx := 5) dX5_wantSwap_1 iX5_advance w_1090 (by decide) rfl (by first | exact is_lit hv (by decide) rfl | exact is_sq hv hq | exact is_row hv hq | exact is_pn hv hq (by assumption) | assumption) rfl (Nat.le_of_ble_eq_true rfl) ⟨Nat.le_of_ble_eq_true rfl, Nat.le_of_ble_eq_true rfl⟩ (Nat.le_of_ble_eq_true rfl) rfl rfl ?_
          refine sp_X5_advance hv B (tB_le hk).2 Tk.2.2.1 (fun h1 F1 g2 T1 => ?_)
          have hk := (tB_le (T := T) hk).2
          have g1 := g2.trans g1
          have Q := Q.tr F1.fy
          have R := F1.rm (by decide) R
          have hv := F1.inv hv
          have B := F1.mt B
          have Tk := T1
          refine ok_aload_n dX5_wantSwap_4 rfl rfl ?_
          refine ok_iconst (v := 0) dX5_wantSwap_5 (by decide) ?_
          refine ok_aload_n dX5_wantSwap_6 rfl rfl ?_
          refine ok_getR dX5_wantSwap_7 f_X5_7 (by first | exact is_lit hv (by decide) rfl | exact is_sq hv hq | exact is_row hv hq | exact is_pn hv hq (by assumption) | assumption) rfl (by first | exact rf hv rfl | exact rf_row hv hq | assumption) ?_
          refine ok_iconst (v := 0) dX5_wantSwap_10 (by decide) ?_
          refine ok_iaload dX5_wantSwap_11 (is_lit hv (by decide) rfl) (by unfold vp_in; decide) ?_
          rw [show hI _ 50 (Int32.toNatClampNeg 0) = nI n from (R.2.2.1 0 (by decide)).trans R.2.1]
          refine ok_iconst (v := 1) dX5_wantSwap_12 (by decide) ?_
          refine ok_isub dX5_wantSwap_13 ?_
          refine ok_callV (M' := mX5_wantNumber) (b' := (0, 0)) (As := [_, _]) (cx := 5) dX5_wantSwap_14 iX5_wantNumber w_1134 (by decide) rfl (by first | exact is_lit hv (by decide) rfl | exact is_sq hv hq | exact is_row hv hq | exact is_pn hv hq (by assumption) | assumption) rfl (Nat.le_of_ble_eq_true rfl) ⟨Nat.le_of_ble_eq_true rfl, Nat.le_of_ble_eq_true rfl⟩ (Nat.le_of_ble_eq_true rfl) rfl rfl ?_
          refine sp_X5_wantNumber_y hv B hk Tk g1 (M := n) (by omega) rfl c (fun h2 F1 T1 g1 => ?_)
          have hk := (tB_le (T := T) hk).2
          have Q := Q.tr F1.fy
          have R := F1.rm (by decide) R
          have hv := F1.inv hv
          have B := F1.mt B
          have Tk := T1
          refine ok_istore_n (lo' := [_, _, _]) dX5_wantSwap_17 rfl (Nat.le_of_ble_eq_true rfl) rfl rfl ?_
          refine ok_aload_n dX5_wantSwap_18 rfl rfl ?_
          refine ok_aload_n dX5_wantSwap_19 rfl rfl ?_
          refine ok_getI dX5_wantSwap_20 f_X5_210 (by first | exact is_lit hv (by decide) rfl | exact is_sq hv hq | exact is_row hv hq | exact is_pn hv hq (by assumption) | assumption) rfl ?_
          rw [g1]
          refine ok_if_eq (tgt := 46) dX5_wantSwap_23 (by decide) (fun c9 => absurd c9 (by decide)) (fun _ => ?_)
          refine ok_aload_n dX5_wantSwap_26 rfl rfl ?_
          refine ok_getI dX5_wantSwap_27 f_X5_178 (by first | exact is_lit hv (by decide) rfl | exact is_sq hv hq | exact is_row hv hq | exact is_pn hv hq (by assumption) | assumption) rfl ?_
          rw [Tk.1]
          refine ok_iconst (v := 2) dX5_wantSwap_30 (by decide) ?_
          refine ok_icmp_ne (tgt := 46) dX5_wantSwap_31 (by decide) (fun c9 => absurd c9 (fun e => e ((mn_2 t5).mpr t2))) (fun _ => ?_)
          refine ok_aload_n dX5_wantSwap_34 rfl rfl ?_
          refine ok_getI dX5_wantSwap_35 f_X5_185 (by first | exact is_lit hv (by decide) rfl | exact is_sq hv hq | exact is_row hv hq | exact is_pn hv hq (by assumption) | assumption) rfl ?_
          rw [Tk.2.2.2.2.1 t2]
          refine ok_iload_n dX5_wantSwap_38 rfl rfl ?_
          refine ok_icmp_eq (tgt := 46) dX5_wantSwap_39 (by decide) (fun c9 => absurd c9 (fun e => c3 ((nI_inj2 (by have := tN_le T z (tB T z (tB T z k)); omega) (by have := tN_le T z (tB T z k); omega)).mp e))) (fun _ => ?_)
          refine ok_iconst (v := 1) dX5_wantSwap_42 (by decide) ?_
          refine ok_goto (tgt := 47) dX5_wantSwap_43 (by decide) ?_
          refine ok_putI dX5_wantSwap_47 f_X5_210 (by first | exact is_lit hv (by decide) rfl | exact is_sq hv hq | exact is_row hv hq | exact is_pn hv hq (by assumption) | assumption) rfl rfl rfl rfl ?_
          have Q := Q.tr (FA.g (h := h2) (v := 1)).fy
          have R := (FA.g (h := h2) (v := 1)).rm (by decide) R
          have B := (FA.g (h := h2) (v := 1)).mt B
          have Tk := Tk.g (v := 1)
          have g1 : hI (uI h2 49 13 1) 49 13 = 1 := at_uI
          have hv : Inv (uI h2 49 13 1) := hv
          refine ok_aload_n dX5_wantSwap_50 rfl rfl ?_
          refine ok_iconst (v := 0) dX5_wantSwap_51 (by decide) ?_
          refine ok_aload_n dX5_wantSwap_52 rfl rfl ?_
          refine ok_getR dX5_wantSwap_53 f_X5_7 (by first | exact is_lit hv (by decide) rfl | exact is_sq hv hq | exact is_row hv hq | exact is_pn hv hq (by assumption) | assumption) rfl (by first | exact rf hv rfl | exact rf_row hv hq | assumption) ?_
          refine ok_iconst (v := 0) dX5_wantSwap_56 (by decide) ?_
          refine ok_iaload dX5_wantSwap_57 (is_lit hv (by decide) rfl) (by unfold vp_in; decide) ?_
          rw [show hI _ 50 (Int32.toNatClampNeg 0) = nI n from (R.2.2.1 0 (by decide)).trans R.2.1]
          refine ok_iconst (v := 1) dX5_wantSwap_58 (by decide) ?_
          refine ok_isub dX5_wantSwap_59 ?_
          refine ok_callV (M' := mX5_wantNumber) (b' := (0, 0)) (As := [_, _]) (cx := 5) dX5_wantSwap_60 iX5_wantNumber w_1134 (by decide) rfl (by first | exact is_lit hv (by decide) rfl | exact is_sq hv hq | exact is_row hv hq | exact is_pn hv hq (by assumption) | assumption) rfl (Nat.le_of_ble_eq_true rfl) ⟨Nat.le_of_ble_eq_true rfl, Nat.le_of_ble_eq_true rfl⟩ (Nat.le_of_ble_eq_true rfl) rfl rfl ?_
          refine sp_X5_wantNumber_y hv B hk Tk g1 (M := n) (by omega) rfl c2 (fun h1 F1 T1 g1 => ?_)
          have hk := (tB_le (T := T) hk).2
          have Q := Q.tr F1.fy
          have R := F1.rm (by decide) R
          have hv := F1.inv hv
          have B := F1.mt B
          have Tk := T1
          refine ok_istore_n (lo' := [_, _, _]) dX5_wantSwap_63 rfl (Nat.le_of_ble_eq_true rfl) rfl rfl ?_
          refine ok_aload_n dX5_wantSwap_64 rfl rfl ?_
          refine ok_getI dX5_wantSwap_65 f_X5_210 (by first | exact is_lit hv (by decide) rfl | exact is_sq hv hq | exact is_row hv hq | exact is_pn hv hq (by assumption) | assumption) rfl ?_
          rw [g1]
          refine ok_if_eq (tgt := 77) dX5_wantSwap_68 (by decide) (fun c9 => absurd c9 (by decide)) (fun _ => ?_)
          refine ok_aload_n dX5_wantSwap_71 rfl rfl ?_
          refine ok_iload_n dX5_wantSwap_72 rfl rfl ?_
          refine ok_iload_n dX5_wantSwap_73 rfl rfl ?_
          refine ok_callV (M' := mX5_change) (b' := (0, 0)) (As := [_, _]) (cx := 5) dX5_wantSwap_74 iX5_change w_914 (by decide) rfl (by first | exact is_lit hv (by decide) rfl | exact is_sq hv hq | exact is_row hv hq | exact is_pn hv hq (by assumption) | assumption) rfl (Nat.le_of_ble_eq_true rfl) ⟨Nat.le_of_ble_eq_true rfl, Nat.le_of_ble_eq_true rfl⟩ (Nat.le_of_ble_eq_true rfl) rfl rfl ?_
          refine sp_X5_change hv R l1 l2 (fun e => c3 e.symm) (fun h4 M4 R4 => ?_)
          refine ok_return dX5_wantSwap_77 rfl ?_
          exact K _ (Q.tr M4.fy) (Tk.qr M4) ((congrFun (M4.2 49 (by decide)) 13).trans g1) (fun _ => R4)
        · rw [if_neg c2] at K
          refine ok_aload_n dX5_wantSwap_0 rfl rfl ?_
          refine ok_callV (M' := mX5_advance) (b' := (0, 0)) (As := []) (cx := 5) dX5_wantSwap_1 iX5_advance w_1090 (by decide) rfl (by first | exact is_lit hv (by decide) rfl | exact is_sq hv hq | exact is_row hv hq | exact is_pn hv hq (by assumption) | assumption) rfl (Nat.le_of_ble_eq_true rfl) ⟨Nat.le_of_ble_eq_true rfl, Nat.le_of_ble_eq_true rfl⟩ (Nat.le_of_ble_eq_true rfl) rfl rfl ?_
          refine sp_X5_advance hv B (tB_le hk).2 Tk.2.2.1 (fun h1 F1 g2 T1 => ?_)
          have hk := (tB_le (T := T) hk).2
          have g1 := g2.trans g1
          have Q := Q.tr F1.fy
          have R := F1.rm (by decide) R
          have hv := F1.inv hv
          have B := F1.mt B
          have Tk := T1
          refine ok_aload_n dX5_wantSwap_4 rfl rfl ?_
          refine ok_iconst (v := 0) dX5_wantSwap_5 (by decide) ?_
          refine ok_aload_n dX5_wantSwap_6 rfl rfl ?_
          refine ok_getR dX5_wantSwap_7 f_X5_7 (by first | exact is_lit hv (by decide) rfl | exact is_sq hv hq | exact is_row hv hq | exact is_pn hv hq (by assumption) | assumption) rfl (by first | exact rf hv rfl | exact rf_row hv hq | assumption) ?_
          refine ok_iconst (v := 0) dX5_wantSwap_10 (by decide) ?_
          refine ok_iaload dX5_wantSwap_11 (is_lit hv (by decide) rfl) (by unfold vp_in; decide) ?_
          rw [show hI _ 50 (Int32.toNatClampNeg 0) = nI n from (R.2.2.1 0 (by decide)).trans R.2.1]
          refine ok_iconst (v := 1) dX5_wantSwap_12 (by decide) ?_
          refine ok_isub dX5_wantSwap_13 ?_
          refine ok_callV (M' := mX5_wantNumber) (b' := (0, 0)) (As := [_, _]) (cx := 5) dX5_wantSwap_14 iX5_wantNumber w_1134 (by decide) rfl (by first | exact is_lit hv (by decide) rfl | exact is_sq hv hq | exact is_row hv hq | exact is_pn hv hq (by assumption) | assumption) rfl (Nat.le_of_ble_eq_true rfl) ⟨Nat.le_of_ble_eq_true rfl, Nat.le_of_ble_eq_true rfl⟩ (Nat.le_of_ble_eq_true rfl) rfl rfl ?_
          refine sp_X5_wantNumber_y hv B hk Tk g1 (M := n) (by omega) rfl c (fun h2 F1 T1 g1 => ?_)
          have hk := (tB_le (T := T) hk).2
          have Q := Q.tr F1.fy
          have R := F1.rm (by decide) R
          have hv := F1.inv hv
          have B := F1.mt B
          have Tk := T1
          refine ok_istore_n (lo' := [_, _, _]) dX5_wantSwap_17 rfl (Nat.le_of_ble_eq_true rfl) rfl rfl ?_
          refine ok_aload_n dX5_wantSwap_18 rfl rfl ?_
          refine ok_aload_n dX5_wantSwap_19 rfl rfl ?_
          refine ok_getI dX5_wantSwap_20 f_X5_210 (by first | exact is_lit hv (by decide) rfl | exact is_sq hv hq | exact is_row hv hq | exact is_pn hv hq (by assumption) | assumption) rfl ?_
          rw [g1]
          refine ok_if_eq (tgt := 46) dX5_wantSwap_23 (by decide) (fun c9 => absurd c9 (by decide)) (fun _ => ?_)
          refine ok_aload_n dX5_wantSwap_26 rfl rfl ?_
          refine ok_getI dX5_wantSwap_27 f_X5_178 (by first | exact is_lit hv (by decide) rfl | exact is_sq hv hq | exact is_row hv hq | exact is_pn hv hq (by assumption) | assumption) rfl ?_
          rw [Tk.1]
          refine ok_iconst (v := 2) dX5_wantSwap_30 (by decide) ?_
          refine ok_icmp_ne (tgt := 46) dX5_wantSwap_31 (by decide) (fun c9 => absurd c9 (fun e => e ((mn_2 t5).mpr t2))) (fun _ => ?_)
          refine ok_aload_n dX5_wantSwap_34 rfl rfl ?_
          refine ok_getI dX5_wantSwap_35 f_X5_185 (by first | exact is_lit hv (by decide) rfl | exact is_sq hv hq | exact is_row hv hq | exact is_pn hv hq (by assumption) | assumption) rfl ?_
          rw [Tk.2.2.2.2.1 t2]
          refine ok_iload_n dX5_wantSwap_38 rfl rfl ?_
          refine ok_icmp_eq (tgt := 46) dX5_wantSwap_39 (by decide) (fun c9 => absurd c9 (fun e => c3 ((nI_inj2 (by have := tN_le T z (tB T z (tB T z k)); omega) (by have := tN_le T z (tB T z k); omega)).mp e))) (fun _ => ?_)
          refine ok_iconst (v := 1) dX5_wantSwap_42 (by decide) ?_
          refine ok_goto (tgt := 47) dX5_wantSwap_43 (by decide) ?_
          refine ok_putI dX5_wantSwap_47 f_X5_210 (by first | exact is_lit hv (by decide) rfl | exact is_sq hv hq | exact is_row hv hq | exact is_pn hv hq (by assumption) | assumption) rfl rfl rfl rfl ?_
          have Q := Q.tr (FA.g (h := h2) (v := 1)).fy
          have R := (FA.g (h := h2) (v := 1)).rm (by decide) R
          have B := (FA.g (h := h2) (v := 1)).mt B
          have Tk := Tk.g (v := 1)
          have g1 : hI (uI h2 49 13 1) 49 13 = 1 := at_uI
          have hv : Inv (uI h2 49 13 1) := hv
          refine ok_aload_n dX5_wantSwap_50 rfl rfl ?_
          refine ok_iconst (v := 0) dX5_wantSwap_51 (by decide) ?_
          refine ok_aload_n dX5_wantSwap_52 rfl rfl ?_
          refine ok_getR dX5_wantSwap_53 f_X5_7 (by first | exact is_lit hv (by decide) rfl | exact is_sq hv hq | exact is_row hv hq | exact is_pn hv hq (by assumption) | assumption) rfl (by first | exact rf hv rfl | exact rf_row hv hq | assumption) ?_
          refine ok_iconst (v := 0) dX5_wantSwap_56 (by decide) ?_
          refine ok_iaload dX5_wantSwap_57 (is_lit hv (by decide) rfl) (by unfold vp_in; decide) ?_
          rw [show hI _ 50 (Int32.toNatClampNeg 0) = nI n from (R.2.2.1 0 (by decide)).trans R.2.1]
          refine ok_iconst (v := 1) dX5_wantSwap_58 (by decide) ?_
          refine ok_isub dX5_wantSwap_59 ?_
          refine ok_callV (M' := mX5_wantNumber) (b' := (0, 0)) (As := [_, _]) (cx := 5) dX5_wantSwap_60 iX5_wantNumber w_1134 (by decide) rfl (by first | exact is_lit hv (by decide) rfl | exact is_sq hv hq | exact is_row hv hq | exact is_pn hv hq (by assumption) | assumption) rfl (Nat.le_of_ble_eq_true rfl) ⟨Nat.le_of_ble_eq_true rfl, Nat.le_of_ble_eq_true rfl⟩ (Nat.le_of_ble_eq_true rfl) rfl rfl ?_
          refine sp_X5_wantNumber_n hv B hk Tk g1 (M := n) (by omega) rfl c2 (fun h1 v1 F1 T1 g1 => ?_)
          have Q := Q.tr F1.fy
          have R := F1.rm (by decide) R
          have hv := F1.inv hv
          have B := F1.mt B
          have Tk := T1
          refine ok_istore_n (lo' := [_, _, _]) dX5_wantSwap_63 rfl (Nat.le_of_ble_eq_true rfl) rfl rfl ?_
          refine ok_aload_n dX5_wantSwap_64 rfl rfl ?_
          refine ok_getI dX5_wantSwap_65 f_X5_210 (by first | exact is_lit hv (by decide) rfl | exact is_sq hv hq | exact is_row hv hq | exact is_pn hv hq (by assumption) | assumption) rfl ?_
          rw [g1]
          refine ok_if_eq (tgt := 77) dX5_wantSwap_68 (by decide) (fun _ => ?_) (fun c9 => absurd rfl c9)
          refine ok_return dX5_wantSwap_77 rfl ?_
          exact K _ Q Tk g1 (fun c => absurd c Bool.false_ne_true)
    · rw [if_neg (fun e => t2 (of_decide_eq_true e).1)] at K
      refine ok_aload_n dX5_wantSwap_0 rfl rfl ?_
      refine ok_callV (M' := mX5_advance) (b' := (0, 0)) (As := []) (cx := 5) dX5_wantSwap_1 iX5_advance w_1090 (by decide) rfl (by first | exact is_lit hv (by decide) rfl | exact is_sq hv hq | exact is_row hv hq | exact is_pn hv hq (by assumption) | assumption) rfl (Nat.le_of_ble_eq_true rfl) ⟨Nat.le_of_ble_eq_true rfl, Nat.le_of_ble_eq_true rfl⟩ (Nat.le_of_ble_eq_true rfl) rfl rfl ?_
      refine sp_X5_advance hv B (tB_le hk).2 Tk.2.2.1 (fun h1 F1 g2 T1 => ?_)
      have hk := (tB_le (T := T) hk).2
      have g1 := g2.trans g1
      have Q := Q.tr F1.fy
      have R := F1.rm (by decide) R
      have hv := F1.inv hv
      have B := F1.mt B
      have Tk := T1
      refine ok_aload_n dX5_wantSwap_4 rfl rfl ?_
      refine ok_iconst (v := 0) dX5_wantSwap_5 (by decide) ?_
      refine ok_aload_n dX5_wantSwap_6 rfl rfl ?_
      refine ok_getR dX5_wantSwap_7 f_X5_7 (by first | exact is_lit hv (by decide) rfl | exact is_sq hv hq | exact is_row hv hq | exact is_pn hv hq (by assumption) | assumption) rfl (by first | exact rf hv rfl | exact rf_row hv hq | assumption) ?_
      refine ok_iconst (v := 0) dX5_wantSwap_10 (by decide) ?_
      refine ok_iaload dX5_wantSwap_11 (is_lit hv (by decide) rfl) (by unfold vp_in; decide) ?_
      rw [show hI _ 50 (Int32.toNatClampNeg 0) = nI n from (R.2.2.1 0 (by decide)).trans R.2.1]
      refine ok_iconst (v := 1) dX5_wantSwap_12 (by decide) ?_
      refine ok_isub dX5_wantSwap_13 ?_
      refine ok_callV (M' := mX5_wantNumber) (b' := (0, 0)) (As := [_, _]) (cx := 5) dX5_wantSwap_14 iX5_wantNumber w_1134 (by decide) rfl (by first | exact is_lit hv (by decide) rfl | exact is_sq hv hq | exact is_row hv hq | exact is_pn hv hq (by assumption) | assumption) rfl (Nat.le_of_ble_eq_true rfl) ⟨Nat.le_of_ble_eq_true rfl, Nat.le_of_ble_eq_true rfl⟩ (Nat.le_of_ble_eq_true rfl) rfl rfl ?_
      refine sp_X5_wantNumber_y hv B hk Tk g1 (M := n) (by omega) rfl c (fun h2 F1 T1 g1 => ?_)
      have hk := (tB_le (T := T) hk).2
      have Q := Q.tr F1.fy
      have R := F1.rm (by decide) R
      have hv := F1.inv hv
      have B := F1.mt B
      have Tk := T1
      refine ok_istore_n (lo' := [_, _, _]) dX5_wantSwap_17 rfl (Nat.le_of_ble_eq_true rfl) rfl rfl ?_
      refine ok_aload_n dX5_wantSwap_18 rfl rfl ?_
      refine ok_aload_n dX5_wantSwap_19 rfl rfl ?_
      refine ok_getI dX5_wantSwap_20 f_X5_210 (by first | exact is_lit hv (by decide) rfl | exact is_sq hv hq | exact is_row hv hq | exact is_pn hv hq (by assumption) | assumption) rfl ?_
      rw [g1]
      refine ok_if_eq (tgt := 46) dX5_wantSwap_23 (by decide) (fun c9 => absurd c9 (by decide)) (fun _ => ?_)
      refine ok_aload_n dX5_wantSwap_26 rfl rfl ?_
      refine ok_getI dX5_wantSwap_27 f_X5_178 (by first | exact is_lit hv (by decide) rfl | exact is_sq hv hq | exact is_row hv hq | exact is_pn hv hq (by assumption) | assumption) rfl ?_
      rw [Tk.1]
      refine ok_iconst (v := 2) dX5_wantSwap_30 (by decide) ?_
      refine ok_icmp_ne (tgt := 46) dX5_wantSwap_31 (by decide) (fun _ => ?_) (fun c9 => absurd c9 (fun e => t2 ((mn_2 t5).mp e)))
      refine ok_iconst (v := 0) dX5_wantSwap_46 (by decide) ?_
      refine ok_putI dX5_wantSwap_47 f_X5_210 (by first | exact is_lit hv (by decide) rfl | exact is_sq hv hq | exact is_row hv hq | exact is_pn hv hq (by assumption) | assumption) rfl rfl rfl rfl ?_
      have Q := Q.tr (FA.g (h := h2) (v := 0)).fy
      have R := (FA.g (h := h2) (v := 0)).rm (by decide) R
      have B := (FA.g (h := h2) (v := 0)).mt B
      have Tk := Tk.g (v := 0)
      have g1 : hI (uI h2 49 13 0) 49 13 = 0 := at_uI
      have hv : Inv (uI h2 49 13 0) := hv
      refine ok_aload_n dX5_wantSwap_50 rfl rfl ?_
      refine ok_iconst (v := 0) dX5_wantSwap_51 (by decide) ?_
      refine ok_aload_n dX5_wantSwap_52 rfl rfl ?_
      refine ok_getR dX5_wantSwap_53 f_X5_7 (by first | exact is_lit hv (by decide) rfl | exact is_sq hv hq | exact is_row hv hq | exact is_pn hv hq (by assumption) | assumption) rfl (by first | exact rf hv rfl | exact rf_row hv hq | assumption) ?_
      refine ok_iconst (v := 0) dX5_wantSwap_56 (by decide) ?_
      refine ok_iaload dX5_wantSwap_57 (is_lit hv (by decide) rfl) (by unfold vp_in; decide) ?_
      rw [show hI _ 50 (Int32.toNatClampNeg 0) = nI n from (R.2.2.1 0 (by decide)).trans R.2.1]
      refine ok_iconst (v := 1) dX5_wantSwap_58 (by decide) ?_
      refine ok_isub dX5_wantSwap_59 ?_
      refine ok_callV (M' := mX5_wantNumber) (b' := (0, 0)) (As := [_, _]) (cx := 5) dX5_wantSwap_60 iX5_wantNumber w_1134 (by decide) rfl (by first | exact is_lit hv (by decide) rfl | exact is_sq hv hq | exact is_row hv hq | exact is_pn hv hq (by assumption) | assumption) rfl (Nat.le_of_ble_eq_true rfl) ⟨Nat.le_of_ble_eq_true rfl, Nat.le_of_ble_eq_true rfl⟩ (Nat.le_of_ble_eq_true rfl) rfl rfl ?_
      refine sp_X5_wantNumber_z hv B hk Tk g1 _ _ (fun h1 v1 F1 T1 g1 => ?_)
      have Q := Q.tr F1.fy
      have R := F1.rm (by decide) R
      have hv := F1.inv hv
      have B := F1.mt B
      have Tk := T1
      refine ok_istore_n (lo' := [_, _, _]) dX5_wantSwap_63 rfl (Nat.le_of_ble_eq_true rfl) rfl rfl ?_
      refine ok_aload_n dX5_wantSwap_64 rfl rfl ?_
      refine ok_getI dX5_wantSwap_65 f_X5_210 (by first | exact is_lit hv (by decide) rfl | exact is_sq hv hq | exact is_row hv hq | exact is_pn hv hq (by assumption) | assumption) rfl ?_
      rw [g1]
      refine ok_if_eq (tgt := 77) dX5_wantSwap_68 (by decide) (fun _ => ?_) (fun c9 => absurd rfl c9)
      refine ok_return dX5_wantSwap_77 rfl ?_
      exact K _ Q Tk g1 (fun c => absurd c Bool.false_ne_true)
  · rw [show i_swap T z k n r = _ from if_neg c] at K
    refine ok_aload_n dX5_wantSwap_0 rfl rfl ?_
    refine ok_callV (M' := mX5_advance) (b' := (0, 0)) (As := []) (cx := 5) dX5_wantSwap_1 iX5_advance w_1090 (by decide) rfl (by first | exact is_lit hv (by decide) rfl | exact is_sq hv hq | exact is_row hv hq | exact is_pn hv hq (by assumption) | assumption) rfl (Nat.le_of_ble_eq_true rfl) ⟨Nat.le_of_ble_eq_true rfl, Nat.le_of_ble_eq_true rfl⟩ (Nat.le_of_ble_eq_true rfl) rfl rfl ?_
    refine sp_X5_advance hv B (tB_le hk).2 Tk.2.2.1 (fun h1 F1 g2 T1 => ?_)
    have hk := (tB_le (T := T) hk).2
    have g1 := g2.trans g1
    have Q := Q.tr F1.fy
    have R := F1.rm (by decide) R
    have hv := F1.inv hv
    have B := F1.mt B
    have Tk := T1
    refine ok_aload_n dX5_wantSwap_4 rfl rfl ?_
    refine ok_iconst (v := 0) dX5_wantSwap_5 (by decide) ?_
    refine ok_aload_n dX5_wantSwap_6 rfl rfl ?_
    refine ok_getR dX5_wantSwap_7 f_X5_7 (by first | exact is_lit hv (by decide) rfl | exact is_sq hv hq | exact is_row hv hq | exact is_pn hv hq (by assumption) | assumption) rfl (by first | exact rf hv rfl | exact rf_row hv hq | assumption) ?_
    refine ok_iconst (v := 0) dX5_wantSwap_10 (by decide) ?_
    refine ok_iaload dX5_wantSwap_11 (is_lit hv (by decide) rfl) (by unfold vp_in; decide) ?_
    rw [show hI _ 50 (Int32.toNatClampNeg 0) = nI n from (R.2.2.1 0 (by decide)).trans R.2.1]
    refine ok_iconst (v := 1) dX5_wantSwap_12 (by decide) ?_
    refine ok_isub dX5_wantSwap_13 ?_
    refine ok_callV (M' := mX5_wantNumber) (b' := (0, 0)) (As := [_, _]) (cx := 5) dX5_wantSwap_14 iX5_wantNumber w_1134 (by decide) rfl (by first | exact is_lit hv (by decide) rfl | exact is_sq hv hq | exact is_row hv hq | exact is_pn hv hq (by assumption) | assumption) rfl (Nat.le_of_ble_eq_true rfl) ⟨Nat.le_of_ble_eq_true rfl, Nat.le_of_ble_eq_true rfl⟩ (Nat.le_of_ble_eq_true rfl) rfl rfl ?_
    refine sp_X5_wantNumber_n hv B hk Tk g1 (M := n) (by omega) rfl c (fun h2 v1 F1 T1 g1 => ?_)
    have Q := Q.tr F1.fy
    have R := F1.rm (by decide) R
    have hv := F1.inv hv
    have B := F1.mt B
    have Tk := T1
    refine ok_istore_n (lo' := [_, _, _]) dX5_wantSwap_17 rfl (Nat.le_of_ble_eq_true rfl) rfl rfl ?_
    refine ok_aload_n dX5_wantSwap_18 rfl rfl ?_
    refine ok_aload_n dX5_wantSwap_19 rfl rfl ?_
    refine ok_getI dX5_wantSwap_20 f_X5_210 (by first | exact is_lit hv (by decide) rfl | exact is_sq hv hq | exact is_row hv hq | exact is_pn hv hq (by assumption) | assumption) rfl ?_
    rw [g1]
    refine ok_if_eq (tgt := 46) dX5_wantSwap_23 (by decide) (fun _ => ?_) (fun c9 => absurd rfl c9)
    refine ok_iconst (v := 0) dX5_wantSwap_46 (by decide) ?_
    refine ok_putI dX5_wantSwap_47 f_X5_210 (by first | exact is_lit hv (by decide) rfl | exact is_sq hv hq | exact is_row hv hq | exact is_pn hv hq (by assumption) | assumption) rfl rfl rfl rfl ?_
    have Q := Q.tr (FA.g (h := h2) (v := 0)).fy
    have R := (FA.g (h := h2) (v := 0)).rm (by decide) R
    have B := (FA.g (h := h2) (v := 0)).mt B
    have Tk := Tk.g (v := 0)
    have g1 : hI (uI h2 49 13 0) 49 13 = 0 := at_uI
    have hv : Inv (uI h2 49 13 0) := hv
    refine ok_aload_n dX5_wantSwap_50 rfl rfl ?_
    refine ok_iconst (v := 0) dX5_wantSwap_51 (by decide) ?_
    refine ok_aload_n dX5_wantSwap_52 rfl rfl ?_
    refine ok_getR dX5_wantSwap_53 f_X5_7 (by first | exact is_lit hv (by decide) rfl | exact is_sq hv hq | exact is_row hv hq | exact is_pn hv hq (by assumption) | assumption) rfl (by first | exact rf hv rfl | exact rf_row hv hq | assumption) ?_
    refine ok_iconst (v := 0) dX5_wantSwap_56 (by decide) ?_
    refine ok_iaload dX5_wantSwap_57 (is_lit hv (by decide) rfl) (by unfold vp_in; decide) ?_
    rw [show hI _ 50 (Int32.toNatClampNeg 0) = nI n from (R.2.2.1 0 (by decide)).trans R.2.1]
    refine ok_iconst (v := 1) dX5_wantSwap_58 (by decide) ?_
    refine ok_isub dX5_wantSwap_59 ?_
    refine ok_callV (M' := mX5_wantNumber) (b' := (0, 0)) (As := [_, _]) (cx := 5) dX5_wantSwap_60 iX5_wantNumber w_1134 (by decide) rfl (by first | exact is_lit hv (by decide) rfl | exact is_sq hv hq | exact is_row hv hq | exact is_pn hv hq (by assumption) | assumption) rfl (Nat.le_of_ble_eq_true rfl) ⟨Nat.le_of_ble_eq_true rfl, Nat.le_of_ble_eq_true rfl⟩ (Nat.le_of_ble_eq_true rfl) rfl rfl ?_
    refine sp_X5_wantNumber_z hv B hk Tk g1 _ _ (fun h1 v1 F1 T1 g1 => ?_)
    have Q := Q.tr F1.fy
    have R := F1.rm (by decide) R
    have hv := F1.inv hv
    have B := F1.mt B
    have Tk := T1
    refine ok_istore_n (lo' := [_, _, _]) dX5_wantSwap_63 rfl (Nat.le_of_ble_eq_true rfl) rfl rfl ?_
    refine ok_aload_n dX5_wantSwap_64 rfl rfl ?_
    refine ok_getI dX5_wantSwap_65 f_X5_210 (by first | exact is_lit hv (by decide) rfl | exact is_sq hv hq | exact is_row hv hq | exact is_pn hv hq (by assumption) | assumption) rfl ?_
    rw [g1]
    refine ok_if_eq (tgt := 77) dX5_wantSwap_68 (by decide) (fun _ => ?_) (fun c9 => absurd rfl c9)
    refine ok_return dX5_wantSwap_77 rfl ?_
    exact K _ Q Tk g1 (fun c => absurd c Bool.false_ne_true)
theorem sp_X5_wantOne {g : GG} {h0 h : Hp} {Post : Option Value → Hp → Prop} (hv : Inv h) {T : Nat → Nat} {z : Nat} (B : MT h T z) {k : Nat} (hk : k ≤ z) (Tk : TkM h T z k) {n : Nat} {r : Nat → Int32} (R : RM 50 h n r) (Q : FY h0 h) (g1 : hI h 49 13 = 1) (y : Int32) (K : ∀ h', FY h0 h' → TkM h' T z (i_pers T z k n r y).2.1 → hI h' 49 13 = (if (i_pers T z k n r y).1 = true then 1 else 0) → ((i_pers T z k n r y).1 = true → RM 50 h' (i_pers T z k n r y).2.2.1 (i_pers T z k n r y).2.2.2) → Post none h') : Sp g mX5_wantOne [.ref 49, .int y] h Post := by
  show Go g mX5_wantOne 0 [_, _, _, _, _] [] _ _ _
  by_cases c : n < 10
  · rw [show i_pers T z k n r y = _ from if_pos c] at K
    by_cases c1 : (i_opt T z 6 1000 5 (tB T z k)).1 = true
    · rw [show i_o1 T z n r (arrV0 y) (i_opt T z 6 1000 5 (tB T z k)) = _ from if_pos c1] at K
      by_cases c2 : (i_opt T z 7 100 3 (i_opt T z 6 1000 5 (tB T z k)).2.1).1 = true
      · rw [show i_o2 T z n r (up1 (arrV0 y) 1 (nI (i_opt T z 6 1000 5 (tB T z k)).2.2)) (i_opt T z 7 100 3 (i_opt T z 6 1000 5 (tB T z k)).2.1) = _ from if_pos c2] at K
        by_cases c3 : (i_opt T z 8 100 0 (i_opt T z 7 100 3 (i_opt T z 6 1000 5 (tB T z k)).2.1).2.1).1 = true
        · rw [show i_o3 T z n r (up1 (up1 (arrV0 y) 1 (nI (i_opt T z 6 1000 5 (tB T z k)).2.2)) 2 (nI (i_opt T z 7 100 3 (i_opt T z 6 1000 5 (tB T z k)).2.1).2.2)) (i_opt T z 8 100 0 (i_opt T z 7 100 3 (i_opt T z 6 1000 5 (tB T z k)).2.1).2.1) = _ from if_pos c3] at K
          refine ok_aload_n dX5_wantOne_0 rfl rfl ?_
          refine ok_aload_n dX5_wantOne_1 rfl rfl ?_
          refine ok_getR dX5_wantOne_2 f_X5_7 (by first | exact is_lit hv (by decide) rfl | exact is_sq hv hq | exact is_row hv hq | exact is_pn hv hq (by assumption) | assumption) rfl (by first | exact rf hv rfl | exact rf_row hv hq | assumption) ?_
          refine ok_iconst (v := 0) dX5_wantOne_5 (by decide) ?_
          refine ok_iaload dX5_wantOne_6 (is_lit hv (by decide) rfl) (by unfold vp_in; decide) ?_
          rw [show hI _ 50 (Int32.toNatClampNeg 0) = nI n from (R.2.2.1 0 (by decide)).trans R.2.1]
          refine ok_bipush (v := 10) dX5_wantOne_7 (by decide) ?_
          refine ok_icmp_ge (tgt := 16) dX5_wantOne_9 (by decide) (fun c9 => absurd c9 (nI_ge (a := n) (b := 10) c (by decide))) (fun _ => ?_)
          refine ok_iconst (v := 1) dX5_wantOne_12 (by decide) ?_
          refine ok_goto (tgt := 17) dX5_wantOne_13 (by decide) ?_
          refine ok_putI dX5_wantOne_17 f_X5_210 (by first | exact is_lit hv (by decide) rfl | exact is_sq hv hq | exact is_row hv hq | exact is_pn hv hq (by assumption) | assumption) rfl rfl rfl rfl ?_
          refine ok_aload_n dX5_wantOne_20 rfl rfl ?_
          refine ok_getI dX5_wantOne_21 f_X5_210 (by first | exact is_lit hv (by decide) rfl | exact is_sq hv hq | exact is_row hv hq | exact is_pn hv hq (by assumption) | assumption) rfl ?_
          rw [at_uI]
          refine ok_if_ne (tgt := 28) dX5_wantOne_24 (by decide) (fun _ => ?_) (fun c9 => absurd c9 (by decide))
          refine ok_aload_n dX5_wantOne_28 rfl rfl ?_
          refine ok_callV (M' := mX5_advance) (b' := (0, 0)) (As := []) (cx := 5) dX5_wantOne_29 iX5_advance w_1090 (by decide) rfl (by first | exact is_lit hv (by decide) rfl | exact is_sq hv hq | exact is_row hv hq | exact is_pn hv hq (by assumption) | assumption) rfl (Nat.le_of_ble_eq_true rfl) ⟨Nat.le_of_ble_eq_true rfl, Nat.le_of_ble_eq_true rfl⟩ (Nat.le_of_ble_eq_true rfl) rfl rfl ?_
          have Q := Q.tr (FA.g (h := h) (v := 1)).fy
          have R := (FA.g (h := h) (v := 1)).rm (by decide) R
          have B := (FA.g (h := h) (v := 1)).mt B
          have Tk := Tk.g (v := 1)
          have g1 : hI (uI h 49 13 1) 49 13 = 1 := at_uI
          have hv : Inv (uI h 49 13 1) := hv
          refine sp_X5_advance hv B (tB_le hk).2 Tk.2.2.1 (fun h1 F1 g2 T1 => ?_)
          have hk := (tB_le (T := T) hk).2
          have g1 := g2.trans g1
          have Q := Q.tr F1.fy
          have R := F1.rm (by decide) R
          have hv := F1.inv hv
          have B := F1.mt B
          have Tk := T1
          refine ok_aload_n dX5_wantOne_32 rfl rfl ?_
          refine ok_ldc2 dX5_wantOne_33 w_1129 ?_
          refine ok_iconst (v := 0) dX5_wantOne_36 (by decide) ?_
          refine ok_sipush (v := 999) dX5_wantOne_37 (by decide) ?_
          refine ok_iconst (v := 5) dX5_wantOne_40 (by decide) ?_
          refine ok_callV (M' := mX5_mayWant) (b' := (0, 0)) (As := [_, _, _, _]) (cx := 5) dX5_wantOne_41 iX5_mayWant w_1130 (by decide) rfl (by first | exact is_lit hv (by decide) rfl | exact is_sq hv hq | exact is_row hv hq | exact is_pn hv hq (by assumption) | assumption) rfl (Nat.le_of_ble_eq_true rfl) ⟨Nat.le_of_ble_eq_true rfl, Nat.le_of_ble_eq_true rfl⟩ (Nat.le_of_ble_eq_true rfl) rfl rfl ?_
          refine sp_X5_mayWant hv B hk Tk g1 (i := 6) (by decide) (M := 1000) (d := 5) (by decide) rfl (fun h1 x6 F1 T1 z1 g1 e6 => ?_)
          have hk := z1
          have Q := Q.tr F1.fy
          have R := F1.rm (by decide) R
          have hv := F1.inv hv
          have B := F1.mt B
          have Tk := T1
          rw [if_pos c1] at g1
          have e6 := e6 c1
          subst e6
          refine ok_istore_n (lo' := [_, _, _, _, _]) dX5_wantOne_44 rfl (Nat.le_of_ble_eq_true rfl) rfl rfl ?_
          refine ok_aload_n dX5_wantOne_45 rfl rfl ?_
          refine ok_ldc2 dX5_wantOne_46 w_1138 ?_
          refine ok_iconst (v := 0) dX5_wantOne_49 (by decide) ?_
          refine ok_bipush (v := 99) dX5_wantOne_50 (by decide) ?_
          refine ok_iconst (v := 3) dX5_wantOne_52 (by decide) ?_
          refine ok_callV (M' := mX5_mayWant) (b' := (0, 0)) (As := [_, _, _, _]) (cx := 5) dX5_wantOne_53 iX5_mayWant w_1130 (by decide) rfl (by first | exact is_lit hv (by decide) rfl | exact is_sq hv hq | exact is_row hv hq | exact is_pn hv hq (by assumption) | assumption) rfl (Nat.le_of_ble_eq_true rfl) ⟨Nat.le_of_ble_eq_true rfl, Nat.le_of_ble_eq_true rfl⟩ (Nat.le_of_ble_eq_true rfl) rfl rfl ?_
          refine sp_X5_mayWant hv B hk Tk g1 (i := 7) (by decide) (M := 100) (d := 3) (by decide) rfl (fun h2 x7 F1 T1 z1 g1 e7 => ?_)
          have hk := z1
          have Q := Q.tr F1.fy
          have R := F1.rm (by decide) R
          have hv := F1.inv hv
          have B := F1.mt B
          have Tk := T1
          rw [if_pos c2] at g1
          have e7 := e7 c2
          subst e7
          refine ok_istore_n (lo' := [_, _, _, _, _]) dX5_wantOne_56 rfl (Nat.le_of_ble_eq_true rfl) rfl rfl ?_
          refine ok_aload_n dX5_wantOne_57 rfl rfl ?_
          refine ok_ldc2 dX5_wantOne_58 w_1139 ?_
          refine ok_iconst (v := 0) dX5_wantOne_61 (by decide) ?_
          refine ok_bipush (v := 99) dX5_wantOne_62 (by decide) ?_
          refine ok_iconst (v := 0) dX5_wantOne_64 (by decide) ?_
          refine ok_callV (M' := mX5_mayWant) (b' := (0, 0)) (As := [_, _, _, _]) (cx := 5) dX5_wantOne_65 iX5_mayWant w_1130 (by decide) rfl (by first | exact is_lit hv (by decide) rfl | exact is_sq hv hq | exact is_row hv hq | exact is_pn hv hq (by assumption) | assumption) rfl (Nat.le_of_ble_eq_true rfl) ⟨Nat.le_of_ble_eq_true rfl, Nat.le_of_ble_eq_true rfl⟩ (Nat.le_of_ble_eq_true rfl) rfl rfl ?_
          refine sp_X5_mayWant hv B hk Tk g1 (i := 8) (by decide) (M := 100) (d := 0) (by decide) rfl (fun h3 x8 F1 T1 z1 g1 e8 => ?_)
          have hk := z1
          have Q := Q.tr F1.fy
          have R := F1.rm (by decide) R
          have hv := F1.inv hv
          have B := F1.mt B
          have Tk := T1
          rw [if_pos c3] at g1
          have e8 := e8 c3
          subst e8
          refine ok_istore (lo' := [_, _, _, _, _]) dX5_wantOne_68 (Nat.le_of_ble_eq_true rfl) rfl rfl ?_
          refine ok_aload_n dX5_wantOne_70 rfl rfl ?_
          refine ok_getI dX5_wantOne_71 f_X5_210 (by first | exact is_lit hv (by decide) rfl | exact is_sq hv hq | exact is_row hv hq | exact is_pn hv hq (by assumption) | assumption) rfl ?_
          rw [g1]
          refine ok_if_eq (tgt := 86) dX5_wantOne_74 (by decide) (fun c9 => absurd c9 (by decide)) (fun _ => ?_)
          refine ok_aload_n dX5_wantOne_77 rfl rfl ?_
          refine ok_iload_n dX5_wantOne_78 rfl rfl ?_
          refine ok_iload_n dX5_wantOne_79 rfl rfl ?_
          refine ok_iload_n dX5_wantOne_80 rfl rfl ?_
          refine ok_iload dX5_wantOne_81 rfl ?_
          refine ok_callV (M' := mX5_addOne) (b' := (0, 0)) (As := [_, _, _, _]) (cx := 5) dX5_wantOne_83 iX5_addOne w_855 (by decide) rfl (by first | exact is_lit hv (by decide) rfl | exact is_sq hv hq | exact is_row hv hq | exact is_pn hv hq (by assumption) | assumption) rfl (Nat.le_of_ble_eq_true rfl) ⟨Nat.le_of_ble_eq_true rfl, Nat.le_of_ble_eq_true rfl⟩ (Nat.le_of_ble_eq_true rfl) rfl rfl ?_
          refine sp_X5_addOne (v := up1 (up1 (up1 (arrV0 y) 1 (nI (i_opt T z 6 1000 5 (tB T z k)).2.2)) 2 (nI (i_opt T z 7 100 3 (i_opt T z 6 1000 5 (tB T z k)).2.1).2.2)) 3 (nI (i_opt T z 8 100 0 (i_opt T z 7 100 3 (i_opt T z 6 1000 5 (tB T z k)).2.1).2.1).2.2)) hv R c rfl rfl rfl (fun h4 M4 R4 => ?_)
          refine ok_return dX5_wantOne_86 rfl ?_
          exact K _ (Q.tr M4.fy) (Tk.qr M4) ((congrFun (M4.2 49 (by decide)) 13).trans g1) (fun _ => R4)
        · rw [show i_o3 T z n r (up1 (up1 (arrV0 y) 1 (nI (i_opt T z 6 1000 5 (tB T z k)).2.2)) 2 (nI (i_opt T z 7 100 3 (i_opt T z 6 1000 5 (tB T z k)).2.1).2.2)) (i_opt T z 8 100 0 (i_opt T z 7 100 3 (i_opt T z 6 1000 5 (tB T z k)).2.1).2.1) = _ from if_neg c3] at K
          refine ok_aload_n dX5_wantOne_0 rfl rfl ?_
          refine ok_aload_n dX5_wantOne_1 rfl rfl ?_
          refine ok_getR dX5_wantOne_2 f_X5_7 (by first | exact is_lit hv (by decide) rfl | exact is_sq hv hq | exact is_row hv hq | exact is_pn hv hq (by assumption) | assumption) rfl (by first | exact rf hv rfl | exact rf_row hv hq | assumption) ?_
          refine ok_iconst (v := 0) dX5_wantOne_5 (by decide) ?_
          refine ok_iaload dX5_wantOne_6 (is_lit hv (by decide) rfl) (by unfold vp_in; decide) ?_
          rw [show hI _ 50 (Int32.toNatClampNeg 0) = nI n from (R.2.2.1 0 (by decide)).trans R.2.1]
          refine ok_bipush (v := 10) dX5_wantOne_7 (by decide) ?_
          refine ok_icmp_ge (tgt := 16) dX5_wantOne_9 (by decide) (fun c9 => absurd c9 (nI_ge (a := n) (b := 10) c (by decide))) (fun _ => ?_)
          refine ok_iconst (v := 1) dX5_wantOne_12 (by decide) ?_
          refine ok_goto (tgt := 17) dX5_wantOne_13 (by decide) ?_
          refine ok_putI dX5_wantOne_17 f_X5_210 (by first | exact is_lit hv (by decide) rfl | exact is_sq hv hq | exact is_row hv hq | exact is_pn hv hq (by assumption) | assumption) rfl rfl rfl rfl ?_
          refine ok_aload_n dX5_wantOne_20 rfl rfl ?_
          refine ok_getI dX5_wantOne_21 f_X5_210 (by first | exact is_lit hv (by decide) rfl | exact is_sq hv hq | exact is_row hv hq | exact is_pn hv hq (by assumption) | assumption) rfl ?_
          rw [at_uI]
          refine ok_if_ne (tgt := 28) dX5_wantOne_24 (by decide) (fun _ => ?_) (fun c9 => absurd c9 (by decide))
          refine ok_aload_n dX5_wantOne_28 rfl rfl ?_
          refine ok_callV (M' := mX5_advance) (b' := (0, 0)) (As := []) (cx := 5) dX5_wantOne_29 iX5_advance w_1090 (by decide) rfl (by first | exact is_lit hv (by decide) rfl | exact is_sq hv hq | exact is_row hv hq | exact is_pn hv hq (by assumption) | assumption) rfl (Nat.le_of_ble_eq_true rfl) ⟨Nat.le_of_ble_eq_true rfl, Nat.le_of_ble_eq_true rfl⟩ (Nat.le_of_ble_eq_true rfl) rfl rfl ?_
          have Q := Q.tr (FA.g (h := h) (v := 1)).fy
          have R := (FA.g (h := h) (v := 1)).rm (by decide) R
          have B := (FA.g (h := h) (v := 1)).mt B
          have Tk := Tk.g (v := 1)
          have g1 : hI (uI h 49 13 1) 49 13 = 1 := at_uI
          have hv : Inv (uI h 49 13 1) := hv
          refine sp_X5_advance hv B (tB_le hk).2 Tk.2.2.1 (fun h1 F1 g2 T1 => ?_)
          have hk := (tB_le (T := T) hk).2
          have g1 := g2.trans g1
          have Q := Q.tr F1.fy
          have R := F1.rm (by decide) R
          have hv := F1.inv hv
          have B := F1.mt B
          have Tk := T1
          refine ok_aload_n dX5_wantOne_32 rfl rfl ?_
          refine ok_ldc2 dX5_wantOne_33 w_1129 ?_
          refine ok_iconst (v := 0) dX5_wantOne_36 (by decide) ?_
          refine ok_sipush (v := 999) dX5_wantOne_37 (by decide) ?_
          refine ok_iconst (v := 5) dX5_wantOne_40 (by decide) ?_
          refine ok_callV (M' := mX5_mayWant) (b' := (0, 0)) (As := [_, _, _, _]) (cx := 5) dX5_wantOne_41 iX5_mayWant w_1130 (by decide) rfl (by first | exact is_lit hv (by decide) rfl | exact is_sq hv hq | exact is_row hv hq | exact is_pn hv hq (by assumption) | assumption) rfl (Nat.le_of_ble_eq_true rfl) ⟨Nat.le_of_ble_eq_true rfl, Nat.le_of_ble_eq_true rfl⟩ (Nat.le_of_ble_eq_true rfl) rfl rfl ?_
          refine sp_X5_mayWant hv B hk Tk g1 (i := 6) (by decide) (M := 1000) (d := 5) (by decide) rfl (fun h1 x6 F1 T1 z1 g1 e6 => ?_)
          have hk := z1
          have Q := Q.tr F1.fy
          have R := F1.rm (by decide) R
          have hv := F1.inv hv
          have B := F1.mt B
          have Tk := T1
          rw [if_pos c1] at g1
          have e6 := e6 c1
          subst e6
          refine ok_istore_n (lo' := [_, _, _, _, _]) dX5_wantOne_44 rfl (Nat.le_of_ble_eq_true rfl) rfl rfl ?_
          refine ok_aload_n dX5_wantOne_45 rfl rfl ?_
          refine ok_ldc2 dX5_wantOne_46 w_1138 ?_
          refine ok_iconst (v := 0) dX5_wantOne_49 (by decide) ?_
          refine ok_bipush (v := 99) dX5_wantOne_50 (by decide) ?_
          refine ok_iconst (v := 3) dX5_wantOne_52 (by decide) ?_
          refine ok_callV (M' := mX5_mayWant) (b' := (0, 0)) (As := [_, _, _, _]) (cx := 5) dX5_wantOne_53 iX5_mayWant w_1130 (by decide) rfl (by first | exact is_lit hv (by decide) rfl | exact is_sq hv hq | exact is_row hv hq | exact is_pn hv hq (by assumption) | assumption) rfl (Nat.le_of_ble_eq_true rfl) ⟨Nat.le_of_ble_eq_true rfl, Nat.le_of_ble_eq_true rfl⟩ (Nat.le_of_ble_eq_true rfl) rfl rfl ?_
          refine sp_X5_mayWant hv B hk Tk g1 (i := 7) (by decide) (M := 100) (d := 3) (by decide) rfl (fun h2 x7 F1 T1 z1 g1 e7 => ?_)
          have hk := z1
          have Q := Q.tr F1.fy
          have R := F1.rm (by decide) R
          have hv := F1.inv hv
          have B := F1.mt B
          have Tk := T1
          rw [if_pos c2] at g1
          have e7 := e7 c2
          subst e7
          refine ok_istore_n (lo' := [_, _, _, _, _]) dX5_wantOne_56 rfl (Nat.le_of_ble_eq_true rfl) rfl rfl ?_
          refine ok_aload_n dX5_wantOne_57 rfl rfl ?_
          refine ok_ldc2 dX5_wantOne_58 w_1139 ?_
          refine ok_iconst (v := 0) dX5_wantOne_61 (by decide) ?_
          refine ok_bipush (v := 99) dX5_wantOne_62 (by decide) ?_
          refine ok_iconst (v := 0) dX5_wantOne_64 (by decide) ?_
          refine ok_callV (M' := mX5_mayWant) (b' := (0, 0)) (As := [_, _, _, _]) (cx := 5) dX5_wantOne_65 iX5_mayWant w_1130 (by decide) rfl (by first | exact is_lit hv (by decide) rfl | exact is_sq hv hq | exact is_row hv hq | exact is_pn hv hq (by assumption) | assumption) rfl (Nat.le_of_ble_eq_true rfl) ⟨Nat.le_of_ble_eq_true rfl, Nat.le_of_ble_eq_true rfl⟩ (Nat.le_of_ble_eq_true rfl) rfl rfl ?_
          refine sp_X5_mayWant hv B hk Tk g1 (i := 8) (by decide) (M := 100) (d := 0) (by decide) rfl (fun h3 x8 F1 T1 z1 g1 e8 => ?_)
          have hk := z1
          have Q := Q.tr F1.fy
          have R := F1.rm (by decide) R
          have hv := F1.inv hv
          have B := F1.mt B
          have Tk := T1
          rw [if_neg c3] at g1
          refine ok_istore (lo' := [_, _, _, _, _]) dX5_wantOne_68 (Nat.le_of_ble_eq_true rfl) rfl rfl ?_
          refine ok_aload_n dX5_wantOne_70 rfl rfl ?_
          refine ok_getI dX5_wantOne_71 f_X5_210 (by first | exact is_lit hv (by decide) rfl | exact is_sq hv hq | exact is_row hv hq | exact is_pn hv hq (by assumption) | assumption) rfl ?_
          rw [g1]
          refine ok_if_eq (tgt := 86) dX5_wantOne_74 (by decide) (fun _ => ?_) (fun c9 => absurd rfl c9)
          refine ok_return dX5_wantOne_86 rfl ?_
          exact K _ Q Tk g1 (fun c => absurd c Bool.false_ne_true)
      · rw [show i_o2 T z n r (up1 (arrV0 y) 1 (nI (i_opt T z 6 1000 5 (tB T z k)).2.2)) (i_opt T z 7 100 3 (i_opt T z 6 1000 5 (tB T z k)).2.1) = _ from if_neg c2] at K
        refine ok_aload_n dX5_wantOne_0 rfl rfl ?_
        refine ok_aload_n dX5_wantOne_1 rfl rfl ?_
        refine ok_getR dX5_wantOne_2 f_X5_7 (by first | exact is_lit hv (by decide) rfl | exact is_sq hv hq | exact is_row hv hq | exact is_pn hv hq (by assumption) | assumption) rfl (by first | exact rf hv rfl | exact rf_row hv hq | assumption) ?_
        refine ok_iconst (v := 0) dX5_wantOne_5 (by decide) ?_
        refine ok_iaload dX5_wantOne_6 (is_lit hv (by decide) rfl) (by unfold vp_in; decide) ?_
        rw [show hI _ 50 (Int32.toNatClampNeg 0) = nI n from (R.2.2.1 0 (by decide)).trans R.2.1]
        refine ok_bipush (v := 10) dX5_wantOne_7 (by decide) ?_
        refine ok_icmp_ge (tgt := 16) dX5_wantOne_9 (by decide) (fun c9 => absurd c9 (nI_ge (a := n) (b := 10) c (by decide))) (fun _ => ?_)
        refine ok_iconst (v := 1) dX5_wantOne_12 (by decide) ?_
        refine ok_goto (tgt := 17) dX5_wantOne_13 (by decide) ?_
        refine ok_putI dX5_wantOne_17 f_X5_210 (by first | exact is_lit hv (by decide) rfl | exact is_sq hv hq | exact is_row hv hq | exact is_pn hv hq (by assumption) | assumption) rfl rfl rfl rfl ?_
        refine ok_aload_n dX5_wantOne_20 rfl rfl ?_
        refine ok_getI dX5_wantOne_21 f_X5_210 (by first | exact is_lit hv (by decide) rfl | exact is_sq hv hq | exact is_row hv hq | exact is_pn hv hq (by assumption) | assumption) rfl ?_
        rw [at_uI]
        refine ok_if_ne (tgt := 28) dX5_wantOne_24 (by decide) (fun _ => ?_) (fun c9 => absurd c9 (by decide))
        refine ok_aload_n dX5_wantOne_28 rfl rfl ?_
        refine ok_callV (M' := mX5_advance) (b' := (0, 0)) (As := []) (cx := 5) dX5_wantOne_29 iX5_advance w_1090 (by decide) rfl (by first | exact is_lit hv (by decide) rfl | exact is_sq hv hq | exact is_row hv hq | exact is_pn hv hq (by assumption) | assumption) rfl (Nat.le_of_ble_eq_true rfl) ⟨Nat.le_of_ble_eq_true rfl, Nat.le_of_ble_eq_true rfl⟩ (Nat.le_of_ble_eq_true rfl) rfl rfl ?_
        have Q := Q.tr (FA.g (h := h) (v := 1)).fy
        have R := (FA.g (h := h) (v := 1)).rm (by decide) R
        have B := (FA.g (h := h) (v := 1)).mt B
        have Tk := Tk.g (v := 1)
        have g1 : hI (uI h 49 13 1) 49 13 = 1 := at_uI
        have hv : Inv (uI h 49 13 1) := hv
        refine sp_X5_advance hv B (tB_le hk).2 Tk.2.2.1 (fun h1 F1 g2 T1 => ?_)
        have hk := (tB_le (T := T) hk).2
        have g1 := g2.trans g1
        have Q := Q.tr F1.fy
        have R := F1.rm (by decide) R
        have hv := F1.inv hv
        have B := F1.mt B
        have Tk := T1
        refine ok_aload_n dX5_wantOne_32 rfl rfl ?_
        refine ok_ldc2 dX5_wantOne_33 w_1129 ?_
        refine ok_iconst (v := 0) dX5_wantOne_36 (by decide) ?_
        refine ok_sipush (v := 999) dX5_wantOne_37 (by decide) ?_
        refine ok_iconst (v := 5) dX5_wantOne_40 (by decide) ?_
        refine ok_callV (M' := mX5_mayWant) (b' := (0, 0)) (As := [_, _, _, _]) (cx := 5) dX5_wantOne_41 iX5_mayWant w_1130 (by decide) rfl (by first | exact is_lit hv (by decide) rfl | exact is_sq hv hq | exact is_row hv hq | exact is_pn hv hq (by assumption) | assumption) rfl (Nat.le_of_ble_eq_true rfl) ⟨Nat.le_of_ble_eq_true rfl, Nat.le_of_ble_eq_true rfl⟩ (Nat.le_of_ble_eq_true rfl) rfl rfl ?_
        refine sp_X5_mayWant hv B hk Tk g1 (i := 6) (by decide) (M := 1000) (d := 5) (by decide) rfl (fun h1 x6 F1 T1 z1 g1 e6 => ?_)
        have hk := z1
        have Q := Q.tr F1.fy
        have R := F1.rm (by decide) R
        have hv := F1.inv hv
        have B := F1.mt B
        have Tk := T1
        rw [if_pos c1] at g1
        have e6 := e6 c1
        subst e6
        refine ok_istore_n (lo' := [_, _, _, _, _]) dX5_wantOne_44 rfl (Nat.le_of_ble_eq_true rfl) rfl rfl ?_
        refine ok_aload_n dX5_wantOne_45 rfl rfl ?_
        refine ok_ldc2 dX5_wantOne_46 w_1138 ?_
        refine ok_iconst (v := 0) dX5_wantOne_49 (by decide) ?_
        refine ok_bipush (v := 99) dX5_wantOne_50 (by decide) ?_
        refine ok_iconst (v := 3) dX5_wantOne_52 (by decide) ?_
        refine ok_callV (M' := mX5_mayWant) (b' := (0, 0)) (As := [_, _, _, _]) (cx := 5) dX5_wantOne_53 iX5_mayWant w_1130 (by decide) rfl (by first | exact is_lit hv (by decide) rfl | exact is_sq hv hq | exact is_row hv hq | exact is_pn hv hq (by assumption) | assumption) rfl (Nat.le_of_ble_eq_true rfl) ⟨Nat.le_of_ble_eq_true rfl, Nat.le_of_ble_eq_true rfl⟩ (Nat.le_of_ble_eq_true rfl) rfl rfl ?_
        refine sp_X5_mayWant hv B hk Tk g1 (i := 7) (by decide) (M := 100) (d := 3) (by decide) rfl (fun h2 x7 F1 T1 z1 g1 e7 => ?_)
        have hk := z1
        have Q := Q.tr F1.fy
        have R := F1.rm (by decide) R
        have hv := F1.inv hv
        have B := F1.mt B
        have Tk := T1
        rw [if_neg c2] at g1
        refine ok_istore_n (lo' := [_, _, _, _, _]) dX5_wantOne_56 rfl (Nat.le_of_ble_eq_true rfl) rfl rfl ?_
        refine ok_aload_n dX5_wantOne_57 rfl rfl ?_
        refine ok_ldc2 dX5_wantOne_58 w_1139 ?_
        refine ok_iconst (v := 0) dX5_wantOne_61 (by decide) ?_
        refine ok_bipush (v := 99) dX5_wantOne_62 (by decide) ?_
        refine ok_iconst (v := 0) dX5_wantOne_64 (by decide) ?_
        refine ok_callV (M' := mX5_mayWant) (b' := (0, 0)) (As := [_, _, _, _]) (cx := 5) dX5_wantOne_65 iX5_mayWant w_1130 (by decide) rfl (by first | exact is_lit hv (by decide) rfl | exact is_sq hv hq | exact is_row hv hq | exact is_pn hv hq (by assumption) | assumption) rfl (Nat.le_of_ble_eq_true rfl) ⟨Nat.le_of_ble_eq_true rfl, Nat.le_of_ble_eq_true rfl⟩ (Nat.le_of_ble_eq_true rfl) rfl rfl ?_
        refine sp_X5_mayWant_z hv B hk Tk g1 _ _ _ _ ?_
        refine ok_istore (lo' := [_, _, _, _, _]) dX5_wantOne_68 (Nat.le_of_ble_eq_true rfl) rfl rfl ?_
        refine ok_aload_n dX5_wantOne_70 rfl rfl ?_
        refine ok_getI dX5_wantOne_71 f_X5_210 (by first | exact is_lit hv (by decide) rfl | exact is_sq hv hq | exact is_row hv hq | exact is_pn hv hq (by assumption) | assumption) rfl ?_
        rw [g1]
        refine ok_if_eq (tgt := 86) dX5_wantOne_74 (by decide) (fun _ => ?_) (fun c9 => absurd rfl c9)
        refine ok_return dX5_wantOne_86 rfl ?_
        exact K _ Q Tk g1 (fun c => absurd c Bool.false_ne_true)
    · rw [show i_o1 T z n r (arrV0 y) (i_opt T z 6 1000 5 (tB T z k)) = _ from if_neg c1] at K
      refine ok_aload_n dX5_wantOne_0 rfl rfl ?_
      refine ok_aload_n dX5_wantOne_1 rfl rfl ?_
      refine ok_getR dX5_wantOne_2 f_X5_7 (by first | exact is_lit hv (by decide) rfl | exact is_sq hv hq | exact is_row hv hq | exact is_pn hv hq (by assumption) | assumption) rfl (by first | exact rf hv rfl | exact rf_row hv hq | assumption) ?_
      refine ok_iconst (v := 0) dX5_wantOne_5 (by decide) ?_
      refine ok_iaload dX5_wantOne_6 (is_lit hv (by decide) rfl) (by unfold vp_in; decide) ?_
      rw [show hI _ 50 (Int32.toNatClampNeg 0) = nI n from (R.2.2.1 0 (by decide)).trans R.2.1]
      refine ok_bipush (v := 10) dX5_wantOne_7 (by decide) ?_
      refine ok_icmp_ge (tgt := 16) dX5_wantOne_9 (by decide) (fun c9 => absurd c9 (nI_ge (a := n) (b := 10) c (by decide))) (fun _ => ?_)
      refine ok_iconst (v := 1) dX5_wantOne_12 (by decide) ?_
      refine ok_goto (tgt := 17) dX5_wantOne_13 (by decide) ?_
      refine ok_putI dX5_wantOne_17 f_X5_210 (by first | exact is_lit hv (by decide) rfl | exact is_sq hv hq | exact is_row hv hq | exact is_pn hv hq (by assumption) | assumption) rfl rfl rfl rfl ?_
      refine ok_aload_n dX5_wantOne_20 rfl rfl ?_
      refine ok_getI dX5_wantOne_21 f_X5_210 (by first | exact is_lit hv (by decide) rfl | exact is_sq hv hq | exact is_row hv hq | exact is_pn hv hq (by assumption) | assumption) rfl ?_
      rw [at_uI]
      refine ok_if_ne (tgt := 28) dX5_wantOne_24 (by decide) (fun _ => ?_) (fun c9 => absurd c9 (by decide))
      refine ok_aload_n dX5_wantOne_28 rfl rfl ?_
      refine ok_callV (M' := mX5_advance) (b' := (0, 0)) (As := []) (cx := 5) dX5_wantOne_29 iX5_advance w_1090 (by decide) rfl (by first | exact is_lit hv (by decide) rfl | exact is_sq hv hq | exact is_row hv hq | exact is_pn hv hq (by assumption) | assumption) rfl (Nat.le_of_ble_eq_true rfl) ⟨Nat.le_of_ble_eq_true rfl, Nat.le_of_ble_eq_true rfl⟩ (Nat.le_of_ble_eq_true rfl) rfl rfl ?_
      have Q := Q.tr (FA.g (h := h) (v := 1)).fy
      have R := (FA.g (h := h) (v := 1)).rm (by decide) R
      have B := (FA.g (h := h) (v := 1)).mt B
      have Tk := Tk.g (v := 1)
      have g1 : hI (uI h 49 13 1) 49 13 = 1 := at_uI
      have hv : Inv (uI h 49 13 1) := hv
      refine sp_X5_advance hv B (tB_le hk).2 Tk.2.2.1 (fun h1 F1 g2 T1 => ?_)
      have hk := (tB_le (T := T) hk).2
      have g1 := g2.trans g1
      have Q := Q.tr F1.fy
      have R := F1.rm (by decide) R
      have hv := F1.inv hv
      have B := F1.mt B
      have Tk := T1
      refine ok_aload_n dX5_wantOne_32 rfl rfl ?_
      refine ok_ldc2 dX5_wantOne_33 w_1129 ?_
      refine ok_iconst (v := 0) dX5_wantOne_36 (by decide) ?_
      refine ok_sipush (v := 999) dX5_wantOne_37 (by decide) ?_
      refine ok_iconst (v := 5) dX5_wantOne_40 (by decide) ?_
      refine ok_callV (M' := mX5_mayWant) (b' := (0, 0)) (As := [_, _, _, _]) (cx := 5) dX5_wantOne_41 iX5_mayWant w_1130 (by decide) rfl (by first | exact is_lit hv (by decide) rfl | exact is_sq hv hq | exact is_row hv hq | exact is_pn hv hq (by assumption) | assumption) rfl (Nat.le_of_ble_eq_true rfl) ⟨Nat.le_of_ble_eq_true rfl, Nat.le_of_ble_eq_true rfl⟩ (Nat.le_of_ble_eq_true rfl) rfl rfl ?_
      refine sp_X5_mayWant hv B hk Tk g1 (i := 6) (by decide) (M := 1000) (d := 5) (by decide) rfl (fun h1 x6 F1 T1 z1 g1 e6 => ?_)
      have hk := z1
      have Q := Q.tr F1.fy
      have R := F1.rm (by decide) R
      have hv := F1.inv hv
      have B := F1.mt B
      have Tk := T1
      rw [if_neg c1] at g1
      refine ok_istore_n (lo' := [_, _, _, _, _]) dX5_wantOne_44 rfl (Nat.le_of_ble_eq_true rfl) rfl rfl ?_
      refine ok_aload_n dX5_wantOne_45 rfl rfl ?_
      refine ok_ldc2 dX5_wantOne_46 w_1138 ?_
      refine ok_iconst (v := 0) dX5_wantOne_49 (by decide) ?_
      refine ok_bipush (v := 99) dX5_wantOne_50 (by decide) ?_
      refine ok_iconst (v := 3) dX5_wantOne_52 (by decide) ?_
      refine ok_callV (M' := mX5_mayWant) (b' := (0, 0)) (As := [_, _, _, _]) (cx := 5) dX5_wantOne_53 iX5_mayWant w_1130 (by decide) rfl (by first | exact is_lit hv (by decide) rfl | exact is_sq hv hq | exact is_row hv hq | exact is_pn hv hq (by assumption) | assumption) rfl (Nat.le_of_ble_eq_true rfl) ⟨Nat.le_of_ble_eq_true rfl, Nat.le_of_ble_eq_true rfl⟩ (Nat.le_of_ble_eq_true rfl) rfl rfl ?_
      refine sp_X5_mayWant_z hv B hk Tk g1 _ _ _ _ ?_
      refine ok_istore_n (lo' := [_, _, _, _, _]) dX5_wantOne_56 rfl (Nat.le_of_ble_eq_true rfl) rfl rfl ?_
      refine ok_aload_n dX5_wantOne_57 rfl rfl ?_
      refine ok_ldc2 dX5_wantOne_58 w_1139 ?_
      refine ok_iconst (v := 0) dX5_wantOne_61 (by decide) ?_
      refine ok_bipush (v := 99) dX5_wantOne_62 (by decide) ?_
      refine ok_iconst (v := 0) dX5_wantOne_64 (by decide) ?_
      refine ok_callV (M' := mX5_mayWant) (b' := (0, 0)) (As := [_, _, _, _]) (cx := 5) dX5_wantOne_65 iX5_mayWant w_1130 (by decide) rfl (by first | exact is_lit hv (by decide) rfl | exact is_sq hv hq | exact is_row hv hq | exact is_pn hv hq (by assumption) | assumption) rfl (Nat.le_of_ble_eq_true rfl) ⟨Nat.le_of_ble_eq_true rfl, Nat.le_of_ble_eq_true rfl⟩ (Nat.le_of_ble_eq_true rfl) rfl rfl ?_
      refine sp_X5_mayWant_z hv B hk Tk g1 _ _ _ _ ?_
      refine ok_istore (lo' := [_, _, _, _, _]) dX5_wantOne_68 (Nat.le_of_ble_eq_true rfl) rfl rfl ?_
      refine ok_aload_n dX5_wantOne_70 rfl rfl ?_
      refine ok_getI dX5_wantOne_71 f_X5_210 (by first | exact is_lit hv (by decide) rfl | exact is_sq hv hq | exact is_row hv hq | exact is_pn hv hq (by assumption) | assumption) rfl ?_
      rw [g1]
      refine ok_if_eq (tgt := 86) dX5_wantOne_74 (by decide) (fun _ => ?_) (fun c9 => absurd rfl c9)
      refine ok_return dX5_wantOne_86 rfl ?_
      exact K _ Q Tk g1 (fun c => absurd c Bool.false_ne_true)
  · rw [show i_pers T z k n r y = _ from if_neg c] at K
    refine ok_aload_n dX5_wantOne_0 rfl rfl ?_
    refine ok_aload_n dX5_wantOne_1 rfl rfl ?_
    refine ok_getR dX5_wantOne_2 f_X5_7 (by first | exact is_lit hv (by decide) rfl | exact is_sq hv hq | exact is_row hv hq | exact is_pn hv hq (by assumption) | assumption) rfl (by first | exact rf hv rfl | exact rf_row hv hq | assumption) ?_
    refine ok_iconst (v := 0) dX5_wantOne_5 (by decide) ?_
    refine ok_iaload dX5_wantOne_6 (is_lit hv (by decide) rfl) (by unfold vp_in; decide) ?_
    rw [show hI _ 50 (Int32.toNatClampNeg 0) = nI n from (R.2.2.1 0 (by decide)).trans R.2.1]
    refine ok_bipush (v := 10) dX5_wantOne_7 (by decide) ?_
    refine ok_icmp_ge (tgt := 16) dX5_wantOne_9 (by decide) (fun _ => ?_) (fun c9 => absurd (nI_le (a := 10) (b := n) (by omega) (by have := R.1; omega)) c9)
    refine ok_iconst (v := 0) dX5_wantOne_16 (by decide) ?_
    refine ok_putI dX5_wantOne_17 f_X5_210 (by first | exact is_lit hv (by decide) rfl | exact is_sq hv hq | exact is_row hv hq | exact is_pn hv hq (by assumption) | assumption) rfl rfl rfl rfl ?_
    refine ok_aload_n dX5_wantOne_20 rfl rfl ?_
    refine ok_getI dX5_wantOne_21 f_X5_210 (by first | exact is_lit hv (by decide) rfl | exact is_sq hv hq | exact is_row hv hq | exact is_pn hv hq (by assumption) | assumption) rfl ?_
    rw [at_uI]
    refine ok_if_ne (tgt := 28) dX5_wantOne_24 (by decide) (fun c9 => absurd c9 (fun c => c rfl)) (fun _ => ?_)
    refine ok_return dX5_wantOne_27 rfl ?_
    exact K _ (Q.tr FA.g.fy) Tk.g at_uI (fun c => absurd c Bool.false_ne_true)
theorem sp_X5_wantItem {g : GG} {h0 h : Hp} {Post : Option Value → Hp → Prop} (hv : Inv h) {T : Nat → Nat} {z : Nat} (B : MT h T z) {k : Nat} (hk : k ≤ z) (Tk : TkM h T z k) {n : Nat} {r : Nat → Int32} (R : RM 50 h n r) (Q : FY h0 h) (g1 : hI h 49 13 = 1) (K : ∀ h', FY h0 h' → TkM h' T z (i_item T z k n r).2.1 → hI h' 49 13 = (if (i_item T z k n r).1 = true then 1 else 0) → ((i_item T z k n r).1 = true → RM 50 h' (i_item T z k n r).2.2.1 (i_item T z k n r).2.2.2) → Post none h') : Sp g mX5_wantItem [.ref 49] h Post := by
  show Go g mX5_wantItem 0 [_] [] _ _ _
  by_cases ck : kn T z k = -1
  · by_cases w9 : wis T z k 9 = true
    · have eR : i_item T z k n r = i_coins T z k n r := by unfold i_item; rw [if_pos (wis_1 w9), if_pos ck, if_pos w9]
      rw [eR] at K
      refine ok_aload_n dX5_wantItem_0 rfl rfl ?_
      refine ok_callV (M' := mX5_kindHere) (b' := (0, 0)) (As := []) (cx := 5) dX5_wantItem_1 iX5_kindHere w_1111 (by decide) rfl (by first | exact is_lit hv (by decide) rfl | exact is_sq hv hq | exact is_row hv hq | exact is_pn hv hq (by assumption) | assumption) rfl (Nat.le_of_ble_eq_true rfl) ⟨Nat.le_of_ble_eq_true rfl, Nat.le_of_ble_eq_true rfl⟩ (Nat.le_of_ble_eq_true rfl) rfl rfl ?_
      refine sp_X5_kindHere hv B hk Tk ?_
      refine ok_if_lt (tgt := 18) dX5_wantItem_4 (by decide) (fun _ => ?_) (fun c9 => absurd (by rw [ck]; decide) c9)
      refine ok_aload_n dX5_wantItem_18 rfl rfl ?_
      refine ok_ldc2 dX5_wantItem_19 w_1140 ?_
      refine ok_callV (M' := mX5_isWord) (b' := (0, 0)) (As := [_]) (cx := 5) dX5_wantItem_22 iX5_isWord w_1116 (by decide) rfl (by first | exact is_lit hv (by decide) rfl | exact is_sq hv hq | exact is_row hv hq | exact is_pn hv hq (by assumption) | assumption) rfl (Nat.le_of_ble_eq_true rfl) ⟨Nat.le_of_ble_eq_true rfl, Nat.le_of_ble_eq_true rfl⟩ (Nat.le_of_ble_eq_true rfl) rfl rfl ?_
      refine sp_X5_isWord hv B hk Tk (i := 9) (by decide) ?_
      refine ok_if_eq (tgt := 39) dX5_wantItem_25 (by decide) (fun c9 => absurd c9 (by rw [if_pos w9]; decide)) (fun _ => ?_)
      refine ok_aload_n dX5_wantItem_28 rfl rfl ?_
      refine ok_iconst (v := 1) dX5_wantItem_29 (by decide) ?_
      refine ok_sipush (v := 999) dX5_wantItem_30 (by decide) ?_
      refine ok_callV (M' := mX5_wantLet) (b' := (0, 0)) (As := [_, _]) (cx := 5) dX5_wantItem_33 iX5_wantLet w_1141 (by decide) rfl (by first | exact is_lit hv (by decide) rfl | exact is_sq hv hq | exact is_row hv hq | exact is_pn hv hq (by assumption) | assumption) rfl (Nat.le_of_ble_eq_true rfl) ⟨Nat.le_of_ble_eq_true rfl, Nat.le_of_ble_eq_true rfl⟩ (Nat.le_of_ble_eq_true rfl) rfl rfl ?_
      refine sp_X5_wantLet_1 hv B hk Tk R Q g1 (fun h2 Q2 T2 g2 R2 => ?_)
      refine ok_goto (tgt := 128) dX5_wantItem_36 (by decide) ?_
      refine ok_return dX5_wantItem_128 rfl ?_
      exact K _ Q2 T2 g2 R2
    · by_cases w10 : wis T z k 10 = true
      · have eR : i_item T z k n r = i_law T z k n r := by unfold i_item; rw [if_pos (wis_1 w10), if_pos ck, if_neg w9, if_pos w10]
        rw [eR] at K
        refine ok_aload_n dX5_wantItem_0 rfl rfl ?_
        refine ok_callV (M' := mX5_kindHere) (b' := (0, 0)) (As := []) (cx := 5) dX5_wantItem_1 iX5_kindHere w_1111 (by decide) rfl (by first | exact is_lit hv (by decide) rfl | exact is_sq hv hq | exact is_row hv hq | exact is_pn hv hq (by assumption) | assumption) rfl (Nat.le_of_ble_eq_true rfl) ⟨Nat.le_of_ble_eq_true rfl, Nat.le_of_ble_eq_true rfl⟩ (Nat.le_of_ble_eq_true rfl) rfl rfl ?_
        refine sp_X5_kindHere hv B hk Tk ?_
        refine ok_if_lt (tgt := 18) dX5_wantItem_4 (by decide) (fun _ => ?_) (fun c9 => absurd (by rw [ck]; decide) c9)
        refine ok_aload_n dX5_wantItem_18 rfl rfl ?_
        refine ok_ldc2 dX5_wantItem_19 w_1140 ?_
        refine ok_callV (M' := mX5_isWord) (b' := (0, 0)) (As := [_]) (cx := 5) dX5_wantItem_22 iX5_isWord w_1116 (by decide) rfl (by first | exact is_lit hv (by decide) rfl | exact is_sq hv hq | exact is_row hv hq | exact is_pn hv hq (by assumption) | assumption) rfl (Nat.le_of_ble_eq_true rfl) ⟨Nat.le_of_ble_eq_true rfl, Nat.le_of_ble_eq_true rfl⟩ (Nat.le_of_ble_eq_true rfl) rfl rfl ?_
        refine sp_X5_isWord hv B hk Tk (i := 9) (by decide) ?_
        refine ok_if_eq (tgt := 39) dX5_wantItem_25 (by decide) (fun _ => ?_) (fun c9 => absurd (if_neg w9) c9)
        refine ok_aload_n dX5_wantItem_39 rfl rfl ?_
        refine ok_ldc2 dX5_wantItem_40 w_1145 ?_
        refine ok_callV (M' := mX5_isWord) (b' := (0, 0)) (As := [_]) (cx := 5) dX5_wantItem_43 iX5_isWord w_1116 (by decide) rfl (by first | exact is_lit hv (by decide) rfl | exact is_sq hv hq | exact is_row hv hq | exact is_pn hv hq (by assumption) | assumption) rfl (Nat.le_of_ble_eq_true rfl) ⟨Nat.le_of_ble_eq_true rfl, Nat.le_of_ble_eq_true rfl⟩ (Nat.le_of_ble_eq_true rfl) rfl rfl ?_
        refine sp_X5_isWord hv B hk Tk (i := 10) (by decide) ?_
        refine ok_if_eq (tgt := 58) dX5_wantItem_46 (by decide) (fun c9 => absurd c9 (by rw [if_pos w10]; decide)) (fun _ => ?_)
        refine ok_aload_n dX5_wantItem_49 rfl rfl ?_
        refine ok_iconst (v := 2) dX5_wantItem_50 (by decide) ?_
        refine ok_iconst (v := 2) dX5_wantItem_51 (by decide) ?_
        refine ok_callV (M' := mX5_wantLet) (b' := (0, 0)) (As := [_, _]) (cx := 5) dX5_wantItem_52 iX5_wantLet w_1141 (by decide) rfl (by first | exact is_lit hv (by decide) rfl | exact is_sq hv hq | exact is_row hv hq | exact is_pn hv hq (by assumption) | assumption) rfl (Nat.le_of_ble_eq_true rfl) ⟨Nat.le_of_ble_eq_true rfl, Nat.le_of_ble_eq_true rfl⟩ (Nat.le_of_ble_eq_true rfl) rfl rfl ?_
        refine sp_X5_wantLet_2 hv B hk Tk R Q g1 (fun h2 Q2 T2 g2 R2 => ?_)
        refine ok_goto (tgt := 128) dX5_wantItem_55 (by decide) ?_
        refine ok_return dX5_wantItem_128 rfl ?_
        exact K _ Q2 T2 g2 R2
      · by_cases w11 : wis T z k 11 = true
        · have eR : i_item T z k n r = i_diver T z k n r := by unfold i_item; rw [if_pos (wis_1 w11), if_pos ck, if_neg w9, if_neg w10, if_pos w11]
          rw [eR] at K
          refine ok_aload_n dX5_wantItem_0 rfl rfl ?_
          refine ok_callV (M' := mX5_kindHere) (b' := (0, 0)) (As := []) (cx := 5) dX5_wantItem_1 iX5_kindHere w_1111 (by decide) rfl (by first | exact is_lit hv (by decide) rfl | exact is_sq hv hq | exact is_row hv hq | exact is_pn hv hq (by assumption) | assumption) rfl (Nat.le_of_ble_eq_true rfl) ⟨Nat.le_of_ble_eq_true rfl, Nat.le_of_ble_eq_true rfl⟩ (Nat.le_of_ble_eq_true rfl) rfl rfl ?_
          refine sp_X5_kindHere hv B hk Tk ?_
          refine ok_if_lt (tgt := 18) dX5_wantItem_4 (by decide) (fun _ => ?_) (fun c9 => absurd (by rw [ck]; decide) c9)
          refine ok_aload_n dX5_wantItem_18 rfl rfl ?_
          refine ok_ldc2 dX5_wantItem_19 w_1140 ?_
          refine ok_callV (M' := mX5_isWord) (b' := (0, 0)) (As := [_]) (cx := 5) dX5_wantItem_22 iX5_isWord w_1116 (by decide) rfl (by first | exact is_lit hv (by decide) rfl | exact is_sq hv hq | exact is_row hv hq | exact is_pn hv hq (by assumption) | assumption) rfl (Nat.le_of_ble_eq_true rfl) ⟨Nat.le_of_ble_eq_true rfl, Nat.le_of_ble_eq_true rfl⟩ (Nat.le_of_ble_eq_true rfl) rfl rfl ?_
          refine sp_X5_isWord hv B hk Tk (i := 9) (by decide) ?_
          refine ok_if_eq (tgt := 39) dX5_wantItem_25 (by decide) (fun _ => ?_) (fun c9 => absurd (if_neg w9) c9)
          refine ok_aload_n dX5_wantItem_39 rfl rfl ?_
          refine ok_ldc2 dX5_wantItem_40 w_1145 ?_
          refine ok_callV (M' := mX5_isWord) (b' := (0, 0)) (As := [_]) (cx := 5) dX5_wantItem_43 iX5_isWord w_1116 (by decide) rfl (by first | exact is_lit hv (by decide) rfl | exact is_sq hv hq | exact is_row hv hq | exact is_pn hv hq (by assumption) | assumption) rfl (Nat.le_of_ble_eq_true rfl) ⟨Nat.le_of_ble_eq_true rfl, Nat.le_of_ble_eq_true rfl⟩ (Nat.le_of_ble_eq_true rfl) rfl rfl ?_
          refine sp_X5_isWord hv B hk Tk (i := 10) (by decide) ?_
          refine ok_if_eq (tgt := 58) dX5_wantItem_46 (by decide) (fun _ => ?_) (fun c9 => absurd (if_neg w10) c9)
          refine ok_aload_n dX5_wantItem_58 rfl rfl ?_
          refine ok_ldc2 dX5_wantItem_59 w_1146 ?_
          refine ok_callV (M' := mX5_isWord) (b' := (0, 0)) (As := [_]) (cx := 5) dX5_wantItem_62 iX5_isWord w_1116 (by decide) rfl (by first | exact is_lit hv (by decide) rfl | exact is_sq hv hq | exact is_row hv hq | exact is_pn hv hq (by assumption) | assumption) rfl (Nat.le_of_ble_eq_true rfl) ⟨Nat.le_of_ble_eq_true rfl, Nat.le_of_ble_eq_true rfl⟩ (Nat.le_of_ble_eq_true rfl) rfl rfl ?_
          refine sp_X5_isWord hv B hk Tk (i := 11) (by decide) ?_
          refine ok_if_eq (tgt := 75) dX5_wantItem_65 (by decide) (fun c9 => absurd c9 (by rw [if_pos w11]; decide)) (fun _ => ?_)
          refine ok_aload_n dX5_wantItem_68 rfl rfl ?_
          refine ok_callV (M' := mX5_wantDiver) (b' := (0, 0)) (As := []) (cx := 5) dX5_wantItem_69 iX5_wantDiver w_1147 (by decide) rfl (by first | exact is_lit hv (by decide) rfl | exact is_sq hv hq | exact is_row hv hq | exact is_pn hv hq (by assumption) | assumption) rfl (Nat.le_of_ble_eq_true rfl) ⟨Nat.le_of_ble_eq_true rfl, Nat.le_of_ble_eq_true rfl⟩ (Nat.le_of_ble_eq_true rfl) rfl rfl ?_
          refine sp_X5_wantDiver hv B hk Tk R Q g1 (fun h2 Q2 T2 g2 R2 => ?_)
          refine ok_goto (tgt := 128) dX5_wantItem_72 (by decide) ?_
          refine ok_return dX5_wantItem_128 rfl ?_
          exact K _ Q2 T2 g2 R2
        · by_cases w13 : wis T z k 13 = true
          · have eR : i_item T z k n r = i_sil T z k n r := by unfold i_item; rw [if_pos (wis_1 w13), if_pos ck, if_neg w9, if_neg w10, if_neg w11, if_pos w13]
            rw [eR] at K
            refine ok_aload_n dX5_wantItem_0 rfl rfl ?_
            refine ok_callV (M' := mX5_kindHere) (b' := (0, 0)) (As := []) (cx := 5) dX5_wantItem_1 iX5_kindHere w_1111 (by decide) rfl (by first | exact is_lit hv (by decide) rfl | exact is_sq hv hq | exact is_row hv hq | exact is_pn hv hq (by assumption) | assumption) rfl (Nat.le_of_ble_eq_true rfl) ⟨Nat.le_of_ble_eq_true rfl, Nat.le_of_ble_eq_true rfl⟩ (Nat.le_of_ble_eq_true rfl) rfl rfl ?_
            refine sp_X5_kindHere hv B hk Tk ?_
            refine ok_if_lt (tgt := 18) dX5_wantItem_4 (by decide) (fun _ => ?_) (fun c9 => absurd (by rw [ck]; decide) c9)
            refine ok_aload_n dX5_wantItem_18 rfl rfl ?_
            refine ok_ldc2 dX5_wantItem_19 w_1140 ?_
            refine ok_callV (M' := mX5_isWord) (b' := (0, 0)) (As := [_]) (cx := 5) dX5_wantItem_22 iX5_isWord w_1116 (by decide) rfl (by first | exact is_lit hv (by decide) rfl | exact is_sq hv hq | exact is_row hv hq | exact is_pn hv hq (by assumption) | assumption) rfl (Nat.le_of_ble_eq_true rfl) ⟨Nat.le_of_ble_eq_true rfl, Nat.le_of_ble_eq_true rfl⟩ (Nat.le_of_ble_eq_true rfl) rfl rfl ?_
            refine sp_X5_isWord hv B hk Tk (i := 9) (by decide) ?_
            refine ok_if_eq (tgt := 39) dX5_wantItem_25 (by decide) (fun _ => ?_) (fun c9 => absurd (if_neg w9) c9)
            refine ok_aload_n dX5_wantItem_39 rfl rfl ?_
            refine ok_ldc2 dX5_wantItem_40 w_1145 ?_
            refine ok_callV (M' := mX5_isWord) (b' := (0, 0)) (As := [_]) (cx := 5) dX5_wantItem_43 iX5_isWord w_1116 (by decide) rfl (by first | exact is_lit hv (by decide) rfl | exact is_sq hv hq | exact is_row hv hq | exact is_pn hv hq (by assumption) | assumption) rfl (Nat.le_of_ble_eq_true rfl) ⟨Nat.le_of_ble_eq_true rfl, Nat.le_of_ble_eq_true rfl⟩ (Nat.le_of_ble_eq_true rfl) rfl rfl ?_
            refine sp_X5_isWord hv B hk Tk (i := 10) (by decide) ?_
            refine ok_if_eq (tgt := 58) dX5_wantItem_46 (by decide) (fun _ => ?_) (fun c9 => absurd (if_neg w10) c9)
            refine ok_aload_n dX5_wantItem_58 rfl rfl ?_
            refine ok_ldc2 dX5_wantItem_59 w_1146 ?_
            refine ok_callV (M' := mX5_isWord) (b' := (0, 0)) (As := [_]) (cx := 5) dX5_wantItem_62 iX5_isWord w_1116 (by decide) rfl (by first | exact is_lit hv (by decide) rfl | exact is_sq hv hq | exact is_row hv hq | exact is_pn hv hq (by assumption) | assumption) rfl (Nat.le_of_ble_eq_true rfl) ⟨Nat.le_of_ble_eq_true rfl, Nat.le_of_ble_eq_true rfl⟩ (Nat.le_of_ble_eq_true rfl) rfl rfl ?_
            refine sp_X5_isWord hv B hk Tk (i := 11) (by decide) ?_
            refine ok_if_eq (tgt := 75) dX5_wantItem_65 (by decide) (fun _ => ?_) (fun c9 => absurd (if_neg w11) c9)
            refine ok_aload_n dX5_wantItem_75 rfl rfl ?_
            refine ok_ldc2 dX5_wantItem_76 w_1152 ?_
            refine ok_callV (M' := mX5_isWord) (b' := (0, 0)) (As := [_]) (cx := 5) dX5_wantItem_79 iX5_isWord w_1116 (by decide) rfl (by first | exact is_lit hv (by decide) rfl | exact is_sq hv hq | exact is_row hv hq | exact is_pn hv hq (by assumption) | assumption) rfl (Nat.le_of_ble_eq_true rfl) ⟨Nat.le_of_ble_eq_true rfl, Nat.le_of_ble_eq_true rfl⟩ (Nat.le_of_ble_eq_true rfl) rfl rfl ?_
            refine sp_X5_isWord hv B hk Tk (i := 13) (by decide) ?_
            refine ok_if_eq (tgt := 106) dX5_wantItem_82 (by decide) (fun c9 => absurd c9 (by rw [if_pos w13]; decide)) (fun _ => ?_)
            refine ok_aload_n dX5_wantItem_85 rfl rfl ?_
            refine ok_callV (M' := mX5_advance) (b' := (0, 0)) (As := []) (cx := 5) dX5_wantItem_86 iX5_advance w_1090 (by decide) rfl (by first | exact is_lit hv (by decide) rfl | exact is_sq hv hq | exact is_row hv hq | exact is_pn hv hq (by assumption) | assumption) rfl (Nat.le_of_ble_eq_true rfl) ⟨Nat.le_of_ble_eq_true rfl, Nat.le_of_ble_eq_true rfl⟩ (Nat.le_of_ble_eq_true rfl) rfl rfl ?_
            refine sp_X5_advance hv B (tB_le hk).2 Tk.2.2.1 (fun h1 F1 g2 T1 => ?_)
            have hk := (tB_le (T := T) hk).2
            have g1 := g2.trans g1
            have Q := Q.tr F1.fy
            have R := F1.rm (by decide) R
            have hv := F1.inv hv
            have B := F1.mt B
            have Tk := T1
            refine ok_aload_n dX5_wantItem_89 rfl rfl ?_
            refine ok_getR dX5_wantItem_90 f_X5_7 (by first | exact is_lit hv (by decide) rfl | exact is_sq hv hq | exact is_row hv hq | exact is_pn hv hq (by assumption) | assumption) rfl (by first | exact rf hv rfl | exact rf_row hv hq | assumption) ?_
            refine ok_iconst (v := 3) dX5_wantItem_93 (by decide) ?_
            refine ok_iconst (v := 0) dX5_wantItem_94 (by decide) ?_
            refine ok_iastore dX5_wantItem_95 (is_lit hv (by decide) rfl) (by unfold vp_in; decide) ?_
            refine ok_aload_n dX5_wantItem_96 rfl rfl ?_
            refine ok_getR dX5_wantItem_97 f_X5_7 (by first | exact is_lit hv (by decide) rfl | exact is_sq hv hq | exact is_row hv hq | exact is_pn hv hq (by assumption) | assumption) rfl (by first | exact rf hv rfl | exact rf_row hv hq | assumption) ?_
            refine ok_iconst (v := 4) dX5_wantItem_100 (by decide) ?_
            refine ok_iconst (v := 0) dX5_wantItem_101 (by decide) ?_
            refine ok_iastore dX5_wantItem_102 (is_lit hv (by decide) rfl) (by unfold vp_in; decide) ?_
            refine ok_goto (tgt := 128) dX5_wantItem_103 (by decide) ?_
            refine ok_return dX5_wantItem_128 rfl ?_
            have RD := (R.u (k := 3) (v := 0) (by decide)).u (k := 4) (v := 0) (by decide)
            exact K _ (Q.tr ((QR.rf.u rfl).u rfl).fy) (Tk.qr ((QR.rf.u rfl).u rfl)) ((at_ua (by decide)).trans ((at_ua (by decide)).trans g1)) (fun _ => RD)
          · by_cases w14 : wis T z k 14 = true
            · have eR : i_item T z k n r = i_swap T z k n r := by unfold i_item; rw [if_pos (wis_1 w14), if_pos ck, if_neg w9, if_neg w10, if_neg w11, if_neg w13, if_pos w14]
              rw [eR] at K
              refine ok_aload_n dX5_wantItem_0 rfl rfl ?_
              refine ok_callV (M' := mX5_kindHere) (b' := (0, 0)) (As := []) (cx := 5) dX5_wantItem_1 iX5_kindHere w_1111 (by decide) rfl (by first | exact is_lit hv (by decide) rfl | exact is_sq hv hq | exact is_row hv hq | exact is_pn hv hq (by assumption) | assumption) rfl (Nat.le_of_ble_eq_true rfl) ⟨Nat.le_of_ble_eq_true rfl, Nat.le_of_ble_eq_true rfl⟩ (Nat.le_of_ble_eq_true rfl) rfl rfl ?_
              refine sp_X5_kindHere hv B hk Tk ?_
              refine ok_if_lt (tgt := 18) dX5_wantItem_4 (by decide) (fun _ => ?_) (fun c9 => absurd (by rw [ck]; decide) c9)
              refine ok_aload_n dX5_wantItem_18 rfl rfl ?_
              refine ok_ldc2 dX5_wantItem_19 w_1140 ?_
              refine ok_callV (M' := mX5_isWord) (b' := (0, 0)) (As := [_]) (cx := 5) dX5_wantItem_22 iX5_isWord w_1116 (by decide) rfl (by first | exact is_lit hv (by decide) rfl | exact is_sq hv hq | exact is_row hv hq | exact is_pn hv hq (by assumption) | assumption) rfl (Nat.le_of_ble_eq_true rfl) ⟨Nat.le_of_ble_eq_true rfl, Nat.le_of_ble_eq_true rfl⟩ (Nat.le_of_ble_eq_true rfl) rfl rfl ?_
              refine sp_X5_isWord hv B hk Tk (i := 9) (by decide) ?_
              refine ok_if_eq (tgt := 39) dX5_wantItem_25 (by decide) (fun _ => ?_) (fun c9 => absurd (if_neg w9) c9)
              refine ok_aload_n dX5_wantItem_39 rfl rfl ?_
              refine ok_ldc2 dX5_wantItem_40 w_1145 ?_
              refine ok_callV (M' := mX5_isWord) (b' := (0, 0)) (As := [_]) (cx := 5) dX5_wantItem_43 iX5_isWord w_1116 (by decide) rfl (by first | exact is_lit hv (by decide) rfl | exact is_sq hv hq | exact is_row hv hq | exact is_pn hv hq (by assumption) | assumption) rfl (Nat.le_of_ble_eq_true rfl) ⟨Nat.le_of_ble_eq_true rfl, Nat.le_of_ble_eq_true rfl⟩ (Nat.le_of_ble_eq_true rfl) rfl rfl ?_
              refine sp_X5_isWord hv B hk Tk (i := 10) (by decide) ?_
              refine ok_if_eq (tgt := 58) dX5_wantItem_46 (by decide) (fun _ => ?_) (fun c9 => absurd (if_neg w10) c9)
              refine ok_aload_n dX5_wantItem_58 rfl rfl ?_
              refine ok_ldc2 dX5_wantItem_59 w_1146 ?_
              refine ok_callV (M' := mX5_isWord) (b' := (0, 0)) (As := [_]) (cx := 5) dX5_wantItem_62 iX5_isWord w_1116 (by decide) rfl (by first | exact is_lit hv (by decide) rfl | exact is_sq hv hq | exact is_row hv hq | exact is_pn hv hq (by assumption) | assumption) rfl (Nat.le_of_ble_eq_true rfl) ⟨Nat.le_of_ble_eq_true rfl, Nat.le_of_ble_eq_true rfl⟩ (Nat.le_of_ble_eq_true rfl) rfl rfl ?_
              refine sp_X5_isWord hv B hk Tk (i := 11) (by decide) ?_
              refine ok_if_eq (tgt := 75) dX5_wantItem_65 (by decide) (fun _ => ?_) (fun c9 => absurd (if_neg w11) c9)
              refine ok_aload_n dX5_wantItem_75 rfl rfl ?_
              refine ok_ldc2 dX5_wantItem_76 w_1152 ?_
              refine ok_callV (M' := mX5_isWord) (b' := (0, 0)) (As := [_]) (cx := 5) dX5_wantItem_79 iX5_isWord w_1116 (by decide) rfl (by first | exact is_lit hv (by decide) rfl | exact is_sq hv hq | exact is_row hv hq | exact is_pn hv hq (by assumption) | assumption) rfl (Nat.le_of_ble_eq_true rfl) ⟨Nat.le_of_ble_eq_true rfl, Nat.le_of_ble_eq_true rfl⟩ (Nat.le_of_ble_eq_true rfl) rfl rfl ?_
              refine sp_X5_isWord hv B hk Tk (i := 13) (by decide) ?_
              refine ok_if_eq (tgt := 106) dX5_wantItem_82 (by decide) (fun _ => ?_) (fun c9 => absurd (if_neg w13) c9)
              refine ok_aload_n dX5_wantItem_106 rfl rfl ?_
              refine ok_ldc2 dX5_wantItem_107 w_1153 ?_
              refine ok_callV (M' := mX5_isWord) (b' := (0, 0)) (As := [_]) (cx := 5) dX5_wantItem_110 iX5_isWord w_1116 (by decide) rfl (by first | exact is_lit hv (by decide) rfl | exact is_sq hv hq | exact is_row hv hq | exact is_pn hv hq (by assumption) | assumption) rfl (Nat.le_of_ble_eq_true rfl) ⟨Nat.le_of_ble_eq_true rfl, Nat.le_of_ble_eq_true rfl⟩ (Nat.le_of_ble_eq_true rfl) rfl rfl ?_
              refine sp_X5_isWord hv B hk Tk (i := 14) (by decide) ?_
              refine ok_if_eq (tgt := 123) dX5_wantItem_113 (by decide) (fun c9 => absurd c9 (by rw [if_pos w14]; decide)) (fun _ => ?_)
              refine ok_aload_n dX5_wantItem_116 rfl rfl ?_
              refine ok_callV (M' := mX5_wantSwap) (b' := (0, 0)) (As := []) (cx := 5) dX5_wantItem_117 iX5_wantSwap w_1154 (by decide) rfl (by first | exact is_lit hv (by decide) rfl | exact is_sq hv hq | exact is_row hv hq | exact is_pn hv hq (by assumption) | assumption) rfl (Nat.le_of_ble_eq_true rfl) ⟨Nat.le_of_ble_eq_true rfl, Nat.le_of_ble_eq_true rfl⟩ (Nat.le_of_ble_eq_true rfl) rfl rfl ?_
              refine sp_X5_wantSwap hv B hk Tk R Q g1 (fun h2 Q2 T2 g2 R2 => ?_)
              refine ok_goto (tgt := 128) dX5_wantItem_120 (by decide) ?_
              refine ok_return dX5_wantItem_128 rfl ?_
              exact K _ Q2 T2 g2 R2
            · have eR : i_item T z k n r = i_no k := by
                unfold i_item
                by_cases t1 : tT T z k = 1
                · rw [if_pos t1, if_pos ck, if_neg w9, if_neg w10, if_neg w11, if_neg w13, if_neg w14]
                · rw [if_neg t1]
              rw [eR] at K
              refine ok_aload_n dX5_wantItem_0 rfl rfl ?_
              refine ok_callV (M' := mX5_kindHere) (b' := (0, 0)) (As := []) (cx := 5) dX5_wantItem_1 iX5_kindHere w_1111 (by decide) rfl (by first | exact is_lit hv (by decide) rfl | exact is_sq hv hq | exact is_row hv hq | exact is_pn hv hq (by assumption) | assumption) rfl (Nat.le_of_ble_eq_true rfl) ⟨Nat.le_of_ble_eq_true rfl, Nat.le_of_ble_eq_true rfl⟩ (Nat.le_of_ble_eq_true rfl) rfl rfl ?_
              refine sp_X5_kindHere hv B hk Tk ?_
              refine ok_if_lt (tgt := 18) dX5_wantItem_4 (by decide) (fun _ => ?_) (fun c9 => absurd (by rw [ck]; decide) c9)
              refine ok_aload_n dX5_wantItem_18 rfl rfl ?_
              refine ok_ldc2 dX5_wantItem_19 w_1140 ?_
              refine ok_callV (M' := mX5_isWord) (b' := (0, 0)) (As := [_]) (cx := 5) dX5_wantItem_22 iX5_isWord w_1116 (by decide) rfl (by first | exact is_lit hv (by decide) rfl | exact is_sq hv hq | exact is_row hv hq | exact is_pn hv hq (by assumption) | assumption) rfl (Nat.le_of_ble_eq_true rfl) ⟨Nat.le_of_ble_eq_true rfl, Nat.le_of_ble_eq_true rfl⟩ (Nat.le_of_ble_eq_true rfl) rfl rfl ?_
              refine sp_X5_isWord hv B hk Tk (i := 9) (by decide) ?_
              refine ok_if_eq (tgt := 39) dX5_wantItem_25 (by decide) (fun _ => ?_) (fun c9 => absurd (if_neg w9) c9)
              refine ok_aload_n dX5_wantItem_39 rfl rfl ?_
              refine ok_ldc2 dX5_wantItem_40 w_1145 ?_
              refine ok_callV (M' := mX5_isWord) (b' := (0, 0)) (As := [_]) (cx := 5) dX5_wantItem_43 iX5_isWord w_1116 (by decide) rfl (by first | exact is_lit hv (by decide) rfl | exact is_sq hv hq | exact is_row hv hq | exact is_pn hv hq (by assumption) | assumption) rfl (Nat.le_of_ble_eq_true rfl) ⟨Nat.le_of_ble_eq_true rfl, Nat.le_of_ble_eq_true rfl⟩ (Nat.le_of_ble_eq_true rfl) rfl rfl ?_
              refine sp_X5_isWord hv B hk Tk (i := 10) (by decide) ?_
              refine ok_if_eq (tgt := 58) dX5_wantItem_46 (by decide) (fun _ => ?_) (fun c9 => absurd (if_neg w10) c9)
              refine ok_aload_n dX5_wantItem_58 rfl rfl ?_
              refine ok_ldc2 dX5_wantItem_59 w_1146 ?_
              refine ok_callV (M' := mX5_isWord) (b' := (0, 0)) (As := [_]) (cx := 5) dX5_wantItem_62 iX5_isWord w_1116 (by decide) rfl (by first | exact is_lit hv (by decide) rfl | exact is_sq hv hq | exact is_row hv hq | exact is_pn hv hq (by assumption) | assumption) rfl (Nat.le_of_ble_eq_true rfl) ⟨Nat.le_of_ble_eq_true rfl, Nat.le_of_ble_eq_true rfl⟩ (Nat.le_of_ble_eq_true rfl) rfl rfl ?_
              refine sp_X5_isWord hv B hk Tk (i := 11) (by decide) ?_
              refine ok_if_eq (tgt := 75) dX5_wantItem_65 (by decide) (fun _ => ?_) (fun c9 => absurd (if_neg w11) c9)
              refine ok_aload_n dX5_wantItem_75 rfl rfl ?_
              refine ok_ldc2 dX5_wantItem_76 w_1152 ?_
              refine ok_callV (M' := mX5_isWord) (b' := (0, 0)) (As := [_]) (cx := 5) dX5_wantItem_79 iX5_isWord w_1116 (by decide) rfl (by first | exact is_lit hv (by decide) rfl | exact is_sq hv hq | exact is_row hv hq | exact is_pn hv hq (by assumption) | assumption) rfl (Nat.le_of_ble_eq_true rfl) ⟨Nat.le_of_ble_eq_true rfl, Nat.le_of_ble_eq_true rfl⟩ (Nat.le_of_ble_eq_true rfl) rfl rfl ?_
              refine sp_X5_isWord hv B hk Tk (i := 13) (by decide) ?_
              refine ok_if_eq (tgt := 106) dX5_wantItem_82 (by decide) (fun _ => ?_) (fun c9 => absurd (if_neg w13) c9)
              refine ok_aload_n dX5_wantItem_106 rfl rfl ?_
              refine ok_ldc2 dX5_wantItem_107 w_1153 ?_
              refine ok_callV (M' := mX5_isWord) (b' := (0, 0)) (As := [_]) (cx := 5) dX5_wantItem_110 iX5_isWord w_1116 (by decide) rfl (by first | exact is_lit hv (by decide) rfl | exact is_sq hv hq | exact is_row hv hq | exact is_pn hv hq (by assumption) | assumption) rfl (Nat.le_of_ble_eq_true rfl) ⟨Nat.le_of_ble_eq_true rfl, Nat.le_of_ble_eq_true rfl⟩ (Nat.le_of_ble_eq_true rfl) rfl rfl ?_
              refine sp_X5_isWord hv B hk Tk (i := 14) (by decide) ?_
              refine ok_if_eq (tgt := 123) dX5_wantItem_113 (by decide) (fun _ => ?_) (fun c9 => absurd (if_neg w14) c9)
              refine ok_aload_n dX5_wantItem_123 rfl rfl ?_
              refine ok_iconst (v := 0) dX5_wantItem_124 (by decide) ?_
              refine ok_putI dX5_wantItem_125 f_X5_210 (by first | exact is_lit hv (by decide) rfl | exact is_sq hv hq | exact is_row hv hq | exact is_pn hv hq (by assumption) | assumption) rfl rfl rfl rfl ?_
              refine ok_return dX5_wantItem_128 rfl ?_
              exact K _ (Q.tr FA.g.fy) Tk.g at_uI (fun c => absurd c Bool.false_ne_true)
  · have t1 : tT T z k = 1 := by
      by_cases t1 : tT T z k = 1
      · exact t1
      · exact absurd (kn_n t1) ck
    rw [show i_item T z k n r = _ from (if_pos t1).trans (if_neg ck)] at K
    refine ok_aload_n dX5_wantItem_0 rfl rfl ?_
    refine ok_callV (M' := mX5_kindHere) (b' := (0, 0)) (As := []) (cx := 5) dX5_wantItem_1 iX5_kindHere w_1111 (by decide) rfl (by first | exact is_lit hv (by decide) rfl | exact is_sq hv hq | exact is_row hv hq | exact is_pn hv hq (by assumption) | assumption) rfl (Nat.le_of_ble_eq_true rfl) ⟨Nat.le_of_ble_eq_true rfl, Nat.le_of_ble_eq_true rfl⟩ (Nat.le_of_ble_eq_true rfl) rfl rfl ?_
    refine sp_X5_kindHere hv B hk Tk ?_
    refine ok_if_lt (tgt := 18) dX5_wantItem_4 (by decide) (fun c9 => absurd c9 (kd_0 ((kn_or T z k).resolve_left ck))) (fun _ => ?_)
    refine ok_aload_n dX5_wantItem_7 rfl rfl ?_
    refine ok_aload_n dX5_wantItem_8 rfl rfl ?_
    refine ok_callV (M' := mX5_kindHere) (b' := (0, 0)) (As := []) (cx := 5) dX5_wantItem_9 iX5_kindHere w_1111 (by decide) rfl (by first | exact is_lit hv (by decide) rfl | exact is_sq hv hq | exact is_row hv hq | exact is_pn hv hq (by assumption) | assumption) rfl (Nat.le_of_ble_eq_true rfl) ⟨Nat.le_of_ble_eq_true rfl, Nat.le_of_ble_eq_true rfl⟩ (Nat.le_of_ble_eq_true rfl) rfl rfl ?_
    refine sp_X5_kindHere hv B hk Tk ?_
    refine ok_callV (M' := mX5_wantOne) (b' := (0, 0)) (As := [_]) (cx := 5) dX5_wantItem_12 iX5_wantOne w_1125 (by decide) rfl (by first | exact is_lit hv (by decide) rfl | exact is_sq hv hq | exact is_row hv hq | exact is_pn hv hq (by assumption) | assumption) rfl (Nat.le_of_ble_eq_true rfl) ⟨Nat.le_of_ble_eq_true rfl, Nat.le_of_ble_eq_true rfl⟩ (Nat.le_of_ble_eq_true rfl) rfl rfl ?_
    refine sp_X5_wantOne hv B hk Tk R Q g1 _ (fun h2 Q2 T2 g2 R2 => ?_)
    refine ok_goto (tgt := 128) dX5_wantItem_15 (by decide) ?_
    refine ok_return dX5_wantItem_128 rfl ?_
    exact K _ Q2 T2 g2 R2
theorem cpI_o {h : Hp} {s d i q k : Nat} (hq : q ≠ d) : hI (cpI h s d i) q k = hI h q k := if_neg (fun e => hq e.1)
theorem cpI_f {h : Hp} {s d i q : Nat} (hq : q ≠ d) : (cpI h s d i).1 q = h.1 q := funext fun _ => if_neg (fun e => hq e.1)
theorem uI_f {h : Hp} {a k b : Nat} {v : Int32} (hb : b ≠ a) : (uI h a k v).1 b = h.1 b := funext fun _ => if_neg (fun e => hb e.1)
/-- what stays of the reference when a text has been told -/
def QS (h h' : Hp) : Prop := h'.2.2 = h.2.2 ∧ (∀ a, a ≠ 49 → a ≠ 50 → a ≠ 52 → a ≠ 53 → a ≠ 54 → a ≠ 61 → h'.1 a = h.1 a) ∧ (∀ a, a ≠ 49 → a ≠ 59 → h'.2.1 a = h.2.1 a) ∧ h'.1 49 7 = 0 ∧ h'.1 49 20 = h.1 49 20
theorem QL.qs {h h' : Hp} (Q : QL h h') : QS h (uI h' 49 7 0) := ⟨Q.1, fun a h1 h2 h3 h4 h5 h6 => (funext fun _ => if_neg (fun e => h1 e.1)).trans (Q.2.1 a h1 h2 h3 h4 h5 h6), Q.2.2.1, at_uI, (at_un (by decide)).trans Q.2.2.2.2⟩
theorem QS.cp {h h' : Hp} {s i : Nat} (Q : QS h h') : QS h (cpI h' s 50 i) := ⟨Q.1, fun a h1 h2 h3 h4 h5 h6 => (funext fun _ => if_neg (fun e => h2 e.1)).trans (Q.2.1 a h1 h2 h3 h4 h5 h6), Q.2.2.1, (cpI_o (by decide)).trans Q.2.2.2.1, (cpI_o (by decide)).trans Q.2.2.2.2⟩
theorem sto3 : Sto 61 := Or.inr (Or.inr rfl)
theorem lp_X5_square_27 {g : GG} {h0 h2 : Hp} {Post : Option Value → Hp → Prop} (hv0 : Inv h2) {T : Nat → Nat} {z : Nat} (B0 : MT h2 T z) {n0 : Nat} {r0 : Nat → Int32} (R61 : RM 61 h2 n0 r0) (Q0 : QL h0 h2) : ∀ (f i : Nat) (h : Hp) (k n : Nat) (r : Nat → Int32), z + 2 ≤ k + 2 * f → i + f ≤ 120 → FY h2 h → k ≤ z → hI h 49 10 = nI k → hI h 49 13 = 1 → RM 50 h n r → ((i_all T z f (i + 1) k n r).1 < 0 → ∀ h', QS h0 h' → RM 50 h' n0 r0 → Post (some (.int (i_all T z f (i + 1) k n r).1)) h') → (¬ (i_all T z f (i + 1) k n r).1 < 0 → ∀ h', QS h0 h' → RM 50 h' (i_all T z f (i + 1) k n r).2.1 (i_all T z f (i + 1) k n r).2.2 → Post (some (.int (i_all T z f (i + 1) k n r).1)) h') → Go g mX5_square 27 [some (.ref 49), some (.int (nI i)), some (.int 1)] [] h (0, 0) Post := by
  have hz := B0.1
  intro f
  induction f with
  | zero =>
    intro i h k n r hf hif F hk
    omega
  | succ f ih =>
    intro i h k n r hf hif F hk e10 g1 R K0 K1
    have hv := F.inv hv0
    have B := F.mt B0
    rw [i_all] at K0 K1
    obtain ⟨ip1, ip2⟩ := item_pos (T := T) (n := n) (r := r) hk
    have t5 := tT_le T z (i_item T z k n r).2.1
    have hng := neg_f (T := T) B.1 ip1
    by_cases c1 : (i_item T z k n r).1 = true
    · rw [if_pos c1] at K0 K1
      have ip3 := ip2 c1
      by_cases c2 : tT T z (i_item T z k n r).2.1 = 0
      · rw [if_pos c2] at K0 K1
        refine ok_aload_n dX5_square_27 rfl rfl ?_
        refine ok_callV (M' := mX5_advance) (b' := (0, 0)) (As := []) (cx := 5) dX5_square_28 iX5_advance w_1090 (by decide) rfl (by first | exact is_lit hv (by decide) rfl | exact is_sq hv hq | exact is_row hv hq | exact is_pn hv hq (by assumption) | assumption) rfl (Nat.le_of_ble_eq_true rfl) ⟨Nat.le_of_ble_eq_true rfl, Nat.le_of_ble_eq_true rfl⟩ (Nat.le_of_ble_eq_true rfl) rfl rfl ?_
        refine sp_X5_advance hv B hk e10 (fun h1 F1 gd T1 => ?_)
        have hv := F1.inv hv
        have B := F1.mt B
        have g1 := gd.trans g1
        have R := F1.rm (by decide) R
        have F := F.tr F1.fy
        refine ok_aload_n dX5_square_31 rfl rfl ?_
        refine ok_callV (M' := mX5_wantItem) (b' := (0, 0)) (As := []) (cx := 5) dX5_square_32 iX5_wantItem w_1107 (by decide) rfl (by first | exact is_lit hv (by decide) rfl | exact is_sq hv hq | exact is_row hv hq | exact is_pn hv hq (by assumption) | assumption) rfl (Nat.le_of_ble_eq_true rfl) ⟨Nat.le_of_ble_eq_true rfl, Nat.le_of_ble_eq_true rfl⟩ (Nat.le_of_ble_eq_true rfl) rfl rfl ?_
        refine sp_X5_wantItem hv B hk T1 R FY.rf g1 (fun h3 Q3 T3 g3 R3 => ?_)
        have hv := Q3.inv hv
        have B := Q3.mt B
        have F := F.tr Q3
        refine ok_iinc (v := _ + 1) (lo' := [_, _, _]) dX5_square_35 rfl rfl (Nat.le_of_ble_eq_true rfl) rfl rfl ?_
        rw [nI_1]
        refine ok_aload_n dX5_square_38 rfl rfl ?_
        refine ok_getI dX5_square_39 f_X5_210 (by first | exact is_lit hv (by decide) rfl | exact is_sq hv hq | exact is_row hv hq | exact is_pn hv hq (by assumption) | assumption) rfl ?_
        rw [g3, if_pos c1]
        refine ok_if_eq (tgt := 66) dX5_square_42 (by decide) (fun c9 => absurd c9 (by decide)) (fun _ => ?_)
        refine ok_aload_n dX5_square_45 rfl rfl ?_
        refine ok_getI dX5_square_46 f_X5_178 (by first | exact is_lit hv (by decide) rfl | exact is_sq hv hq | exact is_row hv hq | exact is_pn hv hq (by assumption) | assumption) rfl ?_
        rw [T3.1]
        refine ok_iconst (v := 3) dX5_square_49 (by decide) ?_
        refine ok_icmp_ne (tgt := 66) dX5_square_50 (by decide) (fun _ => ?_) (fun c9 => absurd c9 (fun e => by have := (mn_3 t5).mp e; omega))
        refine ok_iconst (v := 0) dX5_square_66 (by decide) ?_
        refine ok_istore_n (lo' := [_, _, _]) dX5_square_67 rfl (Nat.le_of_ble_eq_true rfl) rfl rfl ?_
        refine ok_goto (tgt := 23) dX5_square_68 (by decide) ?_
        refine ok_iload_n dX5_square_23 rfl rfl ?_
        refine ok_if_eq (tgt := 71) dX5_square_24 (by decide) (fun _ => ?_) (fun c9 => absurd rfl c9)
        refine ok_aload_n dX5_square_71 rfl rfl ?_
        refine ok_aload_n dX5_square_72 rfl rfl ?_
        refine ok_getI dX5_square_73 f_X5_210 (by first | exact is_lit hv (by decide) rfl | exact is_sq hv hq | exact is_row hv hq | exact is_pn hv hq (by assumption) | assumption) rfl ?_
        rw [g3, if_pos c1]
        refine ok_if_eq (tgt := 90) dX5_square_76 (by decide) (fun c9 => absurd c9 (by decide)) (fun _ => ?_)
        refine ok_aload_n dX5_square_79 rfl rfl ?_
        refine ok_getI dX5_square_80 f_X5_178 (by first | exact is_lit hv (by decide) rfl | exact is_sq hv hq | exact is_row hv hq | exact is_pn hv hq (by assumption) | assumption) rfl ?_
        rw [T3.1]
        refine ok_if_ne (tgt := 90) dX5_square_83 (by decide) (fun c9 => absurd c9 (fun e => e ((mn_0 t5).mpr c2))) (fun _ => ?_)
        refine ok_iconst (v := 1) dX5_square_86 (by decide) ?_
        refine ok_goto (tgt := 91) dX5_square_87 (by decide) ?_
        refine ok_putI dX5_square_91 f_X5_210 (by first | exact is_lit hv (by decide) rfl | exact is_sq hv hq | exact is_row hv hq | exact is_pn hv hq (by assumption) | assumption) rfl rfl rfl rfl ?_
        refine ok_aload_n dX5_square_94 rfl rfl ?_
        refine ok_iconst (v := 0) dX5_square_95 (by decide) ?_
        refine ok_putI dX5_square_96 f_X5_160 (by first | exact is_lit hv (by decide) rfl | exact is_sq hv hq | exact is_row hv hq | exact is_pn hv hq (by assumption) | assumption) rfl rfl rfl rfl ?_
        refine ok_aload_n dX5_square_99 rfl rfl ?_
        refine ok_getI dX5_square_100 f_X5_210 (by first | exact is_lit hv (by decide) rfl | exact is_sq hv hq | exact is_row hv hq | exact is_pn hv hq (by assumption) | assumption) rfl ?_
        rw [at_un (by decide), at_uI]
        refine ok_if_ne (tgt := 122) dX5_square_103 (by decide) (fun _ => ?_) (fun c9 => absurd c9 (by decide))
        refine ok_iload_n dX5_square_122 rfl rfl ?_
        refine ok_ireturn dX5_square_123 rfl rfl ?_
        exact K1 (nI_pos (by omega)) _ ((Q0.tr (F.tr FA.g.fy).ql).qs) ((((R3 c1).fr (h' := uI h3 49 13 1) (uI_f (by decide)))).fr (uI_f (by decide)))
      · rw [if_neg c2] at K0 K1
        by_cases c3 : tT T z (i_item T z k n r).2.1 = 3
        · rw [if_pos c3] at K0 K1
          refine ok_aload_n dX5_square_27 rfl rfl ?_
          refine ok_callV (M' := mX5_advance) (b' := (0, 0)) (As := []) (cx := 5) dX5_square_28 iX5_advance w_1090 (by decide) rfl (by first | exact is_lit hv (by decide) rfl | exact is_sq hv hq | exact is_row hv hq | exact is_pn hv hq (by assumption) | assumption) rfl (Nat.le_of_ble_eq_true rfl) ⟨Nat.le_of_ble_eq_true rfl, Nat.le_of_ble_eq_true rfl⟩ (Nat.le_of_ble_eq_true rfl) rfl rfl ?_
          refine sp_X5_advance hv B hk e10 (fun h1 F1 gd T1 => ?_)
          have hv := F1.inv hv
          have B := F1.mt B
          have g1 := gd.trans g1
          have R := F1.rm (by decide) R
          have F := F.tr F1.fy
          refine ok_aload_n dX5_square_31 rfl rfl ?_
          refine ok_callV (M' := mX5_wantItem) (b' := (0, 0)) (As := []) (cx := 5) dX5_square_32 iX5_wantItem w_1107 (by decide) rfl (by first | exact is_lit hv (by decide) rfl | exact is_sq hv hq | exact is_row hv hq | exact is_pn hv hq (by assumption) | assumption) rfl (Nat.le_of_ble_eq_true rfl) ⟨Nat.le_of_ble_eq_true rfl, Nat.le_of_ble_eq_true rfl⟩ (Nat.le_of_ble_eq_true rfl) rfl rfl ?_
          refine sp_X5_wantItem hv B hk T1 R FY.rf g1 (fun h3 Q3 T3 g3 R3 => ?_)
          have hv := Q3.inv hv
          have B := Q3.mt B
          have F := F.tr Q3
          refine ok_iinc (v := _ + 1) (lo' := [_, _, _]) dX5_square_35 rfl rfl (Nat.le_of_ble_eq_true rfl) rfl rfl ?_
          rw [nI_1]
          refine ok_aload_n dX5_square_38 rfl rfl ?_
          refine ok_getI dX5_square_39 f_X5_210 (by first | exact is_lit hv (by decide) rfl | exact is_sq hv hq | exact is_row hv hq | exact is_pn hv hq (by assumption) | assumption) rfl ?_
          rw [g3, if_pos c1]
          refine ok_if_eq (tgt := 66) dX5_square_42 (by decide) (fun c9 => absurd c9 (by decide)) (fun _ => ?_)
          refine ok_aload_n dX5_square_45 rfl rfl ?_
          refine ok_getI dX5_square_46 f_X5_178 (by first | exact is_lit hv (by decide) rfl | exact is_sq hv hq | exact is_row hv hq | exact is_pn hv hq (by assumption) | assumption) rfl ?_
          rw [T3.1]
          refine ok_iconst (v := 3) dX5_square_49 (by decide) ?_
          refine ok_icmp_ne (tgt := 66) dX5_square_50 (by decide) (fun c9 => absurd c9 (fun e => e ((mn_3 t5).mpr (by omega)))) (fun _ => ?_)
          refine ok_aload_n dX5_square_53 rfl rfl ?_
          refine ok_getI dX5_square_54 f_X5_185 (by first | exact is_lit hv (by decide) rfl | exact is_sq hv hq | exact is_row hv hq | exact is_pn hv hq (by assumption) | assumption) rfl ?_
          rw [T3.2.2.2.2.2 (by omega)]
          refine ok_bipush (v := 59) dX5_square_57 (by decide) ?_
          refine ok_icmp_ne (tgt := 66) dX5_square_59 (by decide) (fun c9 => absurd c9 (fun e => e ((sg_59 B.2.2.1 (by omega)).mpr c3))) (fun _ => ?_)
          refine ok_iconst (v := 1) dX5_square_62 (by decide) ?_
          refine ok_goto (tgt := 67) dX5_square_63 (by decide) ?_
          refine ok_istore_n (lo' := [_, _, _]) dX5_square_67 rfl (Nat.le_of_ble_eq_true rfl) rfl rfl ?_
          refine ok_goto (tgt := 23) dX5_square_68 (by decide) ?_
          refine ok_iload_n dX5_square_23 rfl rfl ?_
          refine ok_if_eq (tgt := 71) dX5_square_24 (by decide) (fun c9 => absurd c9 (by decide)) (fun _ => ?_)
          exact ih (i + 1) h3 _ _ _ (by have := tb2 (T := T) ip1 c2; omega) (by omega) F (tb1 ip1).2 T3.2.2.1 (g3.trans (if_pos c1)) (R3 c1) K0 K1
        · rw [if_neg c3] at K0 K1
          by_cases c4 : 3 ≤ tT T z (i_item T z k n r).2.1
          · refine ok_aload_n dX5_square_27 rfl rfl ?_
            refine ok_callV (M' := mX5_advance) (b' := (0, 0)) (As := []) (cx := 5) dX5_square_28 iX5_advance w_1090 (by decide) rfl (by first | exact is_lit hv (by decide) rfl | exact is_sq hv hq | exact is_row hv hq | exact is_pn hv hq (by assumption) | assumption) rfl (Nat.le_of_ble_eq_true rfl) ⟨Nat.le_of_ble_eq_true rfl, Nat.le_of_ble_eq_true rfl⟩ (Nat.le_of_ble_eq_true rfl) rfl rfl ?_
            refine sp_X5_advance hv B hk e10 (fun h1 F1 gd T1 => ?_)
            have hv := F1.inv hv
            have B := F1.mt B
            have g1 := gd.trans g1
            have R := F1.rm (by decide) R
            have F := F.tr F1.fy
            refine ok_aload_n dX5_square_31 rfl rfl ?_
            refine ok_callV (M' := mX5_wantItem) (b' := (0, 0)) (As := []) (cx := 5) dX5_square_32 iX5_wantItem w_1107 (by decide) rfl (by first | exact is_lit hv (by decide) rfl | exact is_sq hv hq | exact is_row hv hq | exact is_pn hv hq (by assumption) | assumption) rfl (Nat.le_of_ble_eq_true rfl) ⟨Nat.le_of_ble_eq_true rfl, Nat.le_of_ble_eq_true rfl⟩ (Nat.le_of_ble_eq_true rfl) rfl rfl ?_
            refine sp_X5_wantItem hv B hk T1 R FY.rf g1 (fun h3 Q3 T3 g3 R3 => ?_)
            have hv := Q3.inv hv
            have B := Q3.mt B
            have F := F.tr Q3
            refine ok_iinc (v := _ + 1) (lo' := [_, _, _]) dX5_square_35 rfl rfl (Nat.le_of_ble_eq_true rfl) rfl rfl ?_
            rw [nI_1]
            refine ok_aload_n dX5_square_38 rfl rfl ?_
            refine ok_getI dX5_square_39 f_X5_210 (by first | exact is_lit hv (by decide) rfl | exact is_sq hv hq | exact is_row hv hq | exact is_pn hv hq (by assumption) | assumption) rfl ?_
            rw [g3, if_pos c1]
            refine ok_if_eq (tgt := 66) dX5_square_42 (by decide) (fun c9 => absurd c9 (by decide)) (fun _ => ?_)
            refine ok_aload_n dX5_square_45 rfl rfl ?_
            refine ok_getI dX5_square_46 f_X5_178 (by first | exact is_lit hv (by decide) rfl | exact is_sq hv hq | exact is_row hv hq | exact is_pn hv hq (by assumption) | assumption) rfl ?_
            rw [T3.1]
            refine ok_iconst (v := 3) dX5_square_49 (by decide) ?_
            refine ok_icmp_ne (tgt := 66) dX5_square_50 (by decide) (fun c9 => absurd c9 (fun e => e ((mn_3 t5).mpr c4))) (fun _ => ?_)
            refine ok_aload_n dX5_square_53 rfl rfl ?_
            refine ok_getI dX5_square_54 f_X5_185 (by first | exact is_lit hv (by decide) rfl | exact is_sq hv hq | exact is_row hv hq | exact is_pn hv hq (by assumption) | assumption) rfl ?_
            rw [T3.2.2.2.2.2 (by omega)]
            refine ok_bipush (v := 59) dX5_square_57 (by decide) ?_
            refine ok_icmp_ne (tgt := 66) dX5_square_59 (by decide) (fun _ => ?_) (fun c9 => absurd c9 (fun e => c3 ((sg_59 B.2.2.1 c4).mp e)))
            refine ok_iconst (v := 0) dX5_square_66 (by decide) ?_
            refine ok_istore_n (lo' := [_, _, _]) dX5_square_67 rfl (Nat.le_of_ble_eq_true rfl) rfl rfl ?_
            refine ok_goto (tgt := 23) dX5_square_68 (by decide) ?_
            refine ok_iload_n dX5_square_23 rfl rfl ?_
            refine ok_if_eq (tgt := 71) dX5_square_24 (by decide) (fun _ => ?_) (fun c9 => absurd rfl c9)
            refine ok_aload_n dX5_square_71 rfl rfl ?_
            refine ok_aload_n dX5_square_72 rfl rfl ?_
            refine ok_getI dX5_square_73 f_X5_210 (by first | exact is_lit hv (by decide) rfl | exact is_sq hv hq | exact is_row hv hq | exact is_pn hv hq (by assumption) | assumption) rfl ?_
            rw [g3, if_pos c1]
            refine ok_if_eq (tgt := 90) dX5_square_76 (by decide) (fun c9 => absurd c9 (by decide)) (fun _ => ?_)
            refine ok_aload_n dX5_square_79 rfl rfl ?_
            refine ok_getI dX5_square_80 f_X5_178 (by first | exact is_lit hv (by decide) rfl | exact is_sq hv hq | exact is_row hv hq | exact is_pn hv hq (by assumption) | assumption) rfl ?_
            rw [T3.1]
            refine ok_if_ne (tgt := 90) dX5_square_83 (by decide) (fun _ => ?_) (fun c9 => absurd c9 (fun e => c2 ((mn_0 t5).mp e)))
            refine ok_iconst (v := 0) dX5_square_90 (by decide) ?_
            refine ok_putI dX5_square_91 f_X5_210 (by first | exact is_lit hv (by decide) rfl | exact is_sq hv hq | exact is_row hv hq | exact is_pn hv hq (by assumption) | assumption) rfl rfl rfl rfl ?_
            refine ok_aload_n dX5_square_94 rfl rfl ?_
            refine ok_iconst (v := 0) dX5_square_95 (by decide) ?_
            refine ok_putI dX5_square_96 f_X5_160 (by first | exact is_lit hv (by decide) rfl | exact is_sq hv hq | exact is_row hv hq | exact is_pn hv hq (by assumption) | assumption) rfl rfl rfl rfl ?_
            refine ok_aload_n dX5_square_99 rfl rfl ?_
            refine ok_getI dX5_square_100 f_X5_210 (by first | exact is_lit hv (by decide) rfl | exact is_sq hv hq | exact is_row hv hq | exact is_pn hv hq (by assumption) | assumption) rfl ?_
            rw [at_un (by decide), at_uI]
            refine ok_if_ne (tgt := 122) dX5_square_103 (by decide) (fun c9 => absurd c9 (fun c => c rfl)) (fun _ => ?_)
            refine ok_aload_n dX5_square_106 rfl rfl ?_
            refine ok_iconst (v := 0) dX5_square_107 (by decide) ?_
            refine ok_aload_n dX5_square_108 rfl rfl ?_
            refine ok_getR dX5_square_109 f_X5_44 (by first | exact is_lit hv (by decide) rfl | exact is_sq hv hq | exact is_row hv hq | exact is_pn hv hq (by assumption) | assumption) rfl (by first | exact rf hv rfl | exact rf_row hv hq | assumption) ?_
            refine ok_callV (M' := mX5_moveAll) (b' := (0, 0)) (As := [_, _]) (cx := 5) dX5_square_112 iX5_moveAll w_992 (by decide) rfl (by first | exact is_lit hv (by decide) rfl | exact is_sq hv hq | exact is_row hv hq | exact is_pn hv hq (by assumption) | assumption) rfl (Nat.le_of_ble_eq_true rfl) ⟨Nat.le_of_ble_eq_true rfl, Nat.le_of_ble_eq_true rfl⟩ (Nat.le_of_ble_eq_true rfl) rfl rfl ?_
            refine sp_X5_moveAll_r (by exact hv) sto3 ?_
            have E61 : RM 61 (uI (uI h3 49 13 0) 49 7 0) n0 r0 := R61.fr ((uI_f (by decide)).trans ((uI_f (by decide)).trans (F.2.1 61 (by decide) (by decide))))
            have QZ : QS h0 (uI (uI h3 49 13 0) 49 7 0) := (Q0.tr (F.tr FA.g.fy).ql).qs
            refine ok_iconst (v := -1) dX5_square_115 (by decide) ?_
            refine ok_aload_n dX5_square_116 rfl rfl ?_
            refine ok_getI dX5_square_117 f_X5_166 (by first | exact is_lit hv (by decide) rfl | exact is_sq hv hq | exact is_row hv hq | exact is_pn hv hq (by assumption) | assumption) rfl ?_
            rw [show hI (cpI (uI (uI h3 49 13 0) 49 7 0) 61 50 77) 49 9 = nI (tF T z (i_item T z k n r).2.1) from (cpI_o (by decide)).trans ((at_un (by decide)).trans ((at_un (by decide)).trans T3.2.1))]
            refine ok_isub dX5_square_120 ?_
            refine ok_ireturn dX5_square_121 rfl rfl ?_
            exact K0 hng _ QZ.cp E61.cp
          · refine ok_aload_n dX5_square_27 rfl rfl ?_
            refine ok_callV (M' := mX5_advance) (b' := (0, 0)) (As := []) (cx := 5) dX5_square_28 iX5_advance w_1090 (by decide) rfl (by first | exact is_lit hv (by decide) rfl | exact is_sq hv hq | exact is_row hv hq | exact is_pn hv hq (by assumption) | assumption) rfl (Nat.le_of_ble_eq_true rfl) ⟨Nat.le_of_ble_eq_true rfl, Nat.le_of_ble_eq_true rfl⟩ (Nat.le_of_ble_eq_true rfl) rfl rfl ?_
            refine sp_X5_advance hv B hk e10 (fun h1 F1 gd T1 => ?_)
            have hv := F1.inv hv
            have B := F1.mt B
            have g1 := gd.trans g1
            have R := F1.rm (by decide) R
            have F := F.tr F1.fy
            refine ok_aload_n dX5_square_31 rfl rfl ?_
            refine ok_callV (M' := mX5_wantItem) (b' := (0, 0)) (As := []) (cx := 5) dX5_square_32 iX5_wantItem w_1107 (by decide) rfl (by first | exact is_lit hv (by decide) rfl | exact is_sq hv hq | exact is_row hv hq | exact is_pn hv hq (by assumption) | assumption) rfl (Nat.le_of_ble_eq_true rfl) ⟨Nat.le_of_ble_eq_true rfl, Nat.le_of_ble_eq_true rfl⟩ (Nat.le_of_ble_eq_true rfl) rfl rfl ?_
            refine sp_X5_wantItem hv B hk T1 R FY.rf g1 (fun h3 Q3 T3 g3 R3 => ?_)
            have hv := Q3.inv hv
            have B := Q3.mt B
            have F := F.tr Q3
            refine ok_iinc (v := _ + 1) (lo' := [_, _, _]) dX5_square_35 rfl rfl (Nat.le_of_ble_eq_true rfl) rfl rfl ?_
            rw [nI_1]
            refine ok_aload_n dX5_square_38 rfl rfl ?_
            refine ok_getI dX5_square_39 f_X5_210 (by first | exact is_lit hv (by decide) rfl | exact is_sq hv hq | exact is_row hv hq | exact is_pn hv hq (by assumption) | assumption) rfl ?_
            rw [g3, if_pos c1]
            refine ok_if_eq (tgt := 66) dX5_square_42 (by decide) (fun c9 => absurd c9 (by decide)) (fun _ => ?_)
            refine ok_aload_n dX5_square_45 rfl rfl ?_
            refine ok_getI dX5_square_46 f_X5_178 (by first | exact is_lit hv (by decide) rfl | exact is_sq hv hq | exact is_row hv hq | exact is_pn hv hq (by assumption) | assumption) rfl ?_
            rw [T3.1]
            refine ok_iconst (v := 3) dX5_square_49 (by decide) ?_
            refine ok_icmp_ne (tgt := 66) dX5_square_50 (by decide) (fun _ => ?_) (fun c9 => absurd c9 (fun e => c4 ((mn_3 t5).mp e)))
            refine ok_iconst (v := 0) dX5_square_66 (by decide) ?_
            refine ok_istore_n (lo' := [_, _, _]) dX5_square_67 rfl (Nat.le_of_ble_eq_true rfl) rfl rfl ?_
            refine ok_goto (tgt := 23) dX5_square_68 (by decide) ?_
            refine ok_iload_n dX5_square_23 rfl rfl ?_
            refine ok_if_eq (tgt := 71) dX5_square_24 (by decide) (fun _ => ?_) (fun c9 => absurd rfl c9)
            refine ok_aload_n dX5_square_71 rfl rfl ?_
            refine ok_aload_n dX5_square_72 rfl rfl ?_
            refine ok_getI dX5_square_73 f_X5_210 (by first | exact is_lit hv (by decide) rfl | exact is_sq hv hq | exact is_row hv hq | exact is_pn hv hq (by assumption) | assumption) rfl ?_
            rw [g3, if_pos c1]
            refine ok_if_eq (tgt := 90) dX5_square_76 (by decide) (fun c9 => absurd c9 (by decide)) (fun _ => ?_)
            refine ok_aload_n dX5_square_79 rfl rfl ?_
            refine ok_getI dX5_square_80 f_X5_178 (by first | exact is_lit hv (by decide) rfl | exact is_sq hv hq | exact is_row hv hq | exact is_pn hv hq (by assumption) | assumption) rfl ?_
            rw [T3.1]
            refine ok_if_ne (tgt := 90) dX5_square_83 (by decide) (fun _ => ?_) (fun c9 => absurd c9 (fun e => c2 ((mn_0 t5).mp e)))
            refine ok_iconst (v := 0) dX5_square_90 (by decide) ?_
            refine ok_putI dX5_square_91 f_X5_210 (by first | exact is_lit hv (by decide) rfl | exact is_sq hv hq | exact is_row hv hq | exact is_pn hv hq (by assumption) | assumption) rfl rfl rfl rfl ?_
            refine ok_aload_n dX5_square_94 rfl rfl ?_
            refine ok_iconst (v := 0) dX5_square_95 (by decide) ?_
            refine ok_putI dX5_square_96 f_X5_160 (by first | exact is_lit hv (by decide) rfl | exact is_sq hv hq | exact is_row hv hq | exact is_pn hv hq (by assumption) | assumption) rfl rfl rfl rfl ?_
            refine ok_aload_n dX5_square_99 rfl rfl ?_
            refine ok_getI dX5_square_100 f_X5_210 (by first | exact is_lit hv (by decide) rfl | exact is_sq hv hq | exact is_row hv hq | exact is_pn hv hq (by assumption) | assumption) rfl ?_
            rw [at_un (by decide), at_uI]
            refine ok_if_ne (tgt := 122) dX5_square_103 (by decide) (fun c9 => absurd c9 (fun c => c rfl)) (fun _ => ?_)
            refine ok_aload_n dX5_square_106 rfl rfl ?_
            refine ok_iconst (v := 0) dX5_square_107 (by decide) ?_
            refine ok_aload_n dX5_square_108 rfl rfl ?_
            refine ok_getR dX5_square_109 f_X5_44 (by first | exact is_lit hv (by decide) rfl | exact is_sq hv hq | exact is_row hv hq | exact is_pn hv hq (by assumption) | assumption) rfl (by first | exact rf hv rfl | exact rf_row hv hq | assumption) ?_
            refine ok_callV (M' := mX5_moveAll) (b' := (0, 0)) (As := [_, _]) (cx := 5) dX5_square_112 iX5_moveAll w_992 (by decide) rfl (by first | exact is_lit hv (by decide) rfl | exact is_sq hv hq | exact is_row hv hq | exact is_pn hv hq (by assumption) | assumption) rfl (Nat.le_of_ble_eq_true rfl) ⟨Nat.le_of_ble_eq_true rfl, Nat.le_of_ble_eq_true rfl⟩ (Nat.le_of_ble_eq_true rfl) rfl rfl ?_
            refine sp_X5_moveAll_r (by exact hv) sto3 ?_
            have E61 : RM 61 (uI (uI h3 49 13 0) 49 7 0) n0 r0 := R61.fr ((uI_f (by decide)).trans ((uI_f (by decide)).trans (F.2.1 61 (by decide) (by decide))))
            have QZ : QS h0 (uI (uI h3 49 13 0) 49 7 0) := (Q0.tr (F.tr FA.g.fy).ql).qs
            refine ok_iconst (v := -1) dX5_square_115 (by decide) ?_
            refine ok_aload_n dX5_square_116 rfl rfl ?_
            refine ok_getI dX5_square_117 f_X5_166 (by first | exact is_lit hv (by decide) rfl | exact is_sq hv hq | exact is_row hv hq | exact is_pn hv hq (by assumption) | assumption) rfl ?_
            rw [show hI (cpI (uI (uI h3 49 13 0) 49 7 0) 61 50 77) 49 9 = nI (tF T z (i_item T z k n r).2.1) from (cpI_o (by decide)).trans ((at_un (by decide)).trans ((at_un (by decide)).trans T3.2.1))]
            refine ok_isub dX5_square_120 ?_
            refine ok_ireturn dX5_square_121 rfl rfl ?_
            exact K0 hng _ QZ.cp E61.cp
    · rw [if_neg c1] at K0 K1
      refine ok_aload_n dX5_square_27 rfl rfl ?_
      refine ok_callV (M' := mX5_advance) (b' := (0, 0)) (As := []) (cx := 5) dX5_square_28 iX5_advance w_1090 (by decide) rfl (by first | exact is_lit hv (by decide) rfl | exact is_sq hv hq | exact is_row hv hq | exact is_pn hv hq (by assumption) | assumption) rfl (Nat.le_of_ble_eq_true rfl) ⟨Nat.le_of_ble_eq_true rfl, Nat.le_of_ble_eq_true rfl⟩ (Nat.le_of_ble_eq_true rfl) rfl rfl ?_
      refine sp_X5_advance hv B hk e10 (fun h1 F1 gd T1 => ?_)
      have hv := F1.inv hv
      have B := F1.mt B
      have g1 := gd.trans g1
      have R := F1.rm (by decide) R
      have F := F.tr F1.fy
      refine ok_aload_n dX5_square_31 rfl rfl ?_
      refine ok_callV (M' := mX5_wantItem) (b' := (0, 0)) (As := []) (cx := 5) dX5_square_32 iX5_wantItem w_1107 (by decide) rfl (by first | exact is_lit hv (by decide) rfl | exact is_sq hv hq | exact is_row hv hq | exact is_pn hv hq (by assumption) | assumption) rfl (Nat.le_of_ble_eq_true rfl) ⟨Nat.le_of_ble_eq_true rfl, Nat.le_of_ble_eq_true rfl⟩ (Nat.le_of_ble_eq_true rfl) rfl rfl ?_
      refine sp_X5_wantItem hv B hk T1 R FY.rf g1 (fun h3 Q3 T3 g3 R3 => ?_)
      have hv := Q3.inv hv
      have B := Q3.mt B
      have F := F.tr Q3
      refine ok_iinc (v := _ + 1) (lo' := [_, _, _]) dX5_square_35 rfl rfl (Nat.le_of_ble_eq_true rfl) rfl rfl ?_
      rw [nI_1]
      refine ok_aload_n dX5_square_38 rfl rfl ?_
      refine ok_getI dX5_square_39 f_X5_210 (by first | exact is_lit hv (by decide) rfl | exact is_sq hv hq | exact is_row hv hq | exact is_pn hv hq (by assumption) | assumption) rfl ?_
      rw [g3, if_neg c1]
      refine ok_if_eq (tgt := 66) dX5_square_42 (by decide) (fun _ => ?_) (fun c9 => absurd rfl c9)
      refine ok_iconst (v := 0) dX5_square_66 (by decide) ?_
      refine ok_istore_n (lo' := [_, _, _]) dX5_square_67 rfl (Nat.le_of_ble_eq_true rfl) rfl rfl ?_
      refine ok_goto (tgt := 23) dX5_square_68 (by decide) ?_
      refine ok_iload_n dX5_square_23 rfl rfl ?_
      refine ok_if_eq (tgt := 71) dX5_square_24 (by decide) (fun _ => ?_) (fun c9 => absurd rfl c9)
      refine ok_aload_n dX5_square_71 rfl rfl ?_
      refine ok_aload_n dX5_square_72 rfl rfl ?_
      refine ok_getI dX5_square_73 f_X5_210 (by first | exact is_lit hv (by decide) rfl | exact is_sq hv hq | exact is_row hv hq | exact is_pn hv hq (by assumption) | assumption) rfl ?_
      rw [g3, if_neg c1]
      refine ok_if_eq (tgt := 90) dX5_square_76 (by decide) (fun _ => ?_) (fun c9 => absurd rfl c9)
      refine ok_iconst (v := 0) dX5_square_90 (by decide) ?_
      refine ok_putI dX5_square_91 f_X5_210 (by first | exact is_lit hv (by decide) rfl | exact is_sq hv hq | exact is_row hv hq | exact is_pn hv hq (by assumption) | assumption) rfl rfl rfl rfl ?_
      refine ok_aload_n dX5_square_94 rfl rfl ?_
      refine ok_iconst (v := 0) dX5_square_95 (by decide) ?_
      refine ok_putI dX5_square_96 f_X5_160 (by first | exact is_lit hv (by decide) rfl | exact is_sq hv hq | exact is_row hv hq | exact is_pn hv hq (by assumption) | assumption) rfl rfl rfl rfl ?_
      refine ok_aload_n dX5_square_99 rfl rfl ?_
      refine ok_getI dX5_square_100 f_X5_210 (by first | exact is_lit hv (by decide) rfl | exact is_sq hv hq | exact is_row hv hq | exact is_pn hv hq (by assumption) | assumption) rfl ?_
      rw [at_un (by decide), at_uI]
      refine ok_if_ne (tgt := 122) dX5_square_103 (by decide) (fun c9 => absurd c9 (fun c => c rfl)) (fun _ => ?_)
      refine ok_aload_n dX5_square_106 rfl rfl ?_
      refine ok_iconst (v := 0) dX5_square_107 (by decide) ?_
      refine ok_aload_n dX5_square_108 rfl rfl ?_
      refine ok_getR dX5_square_109 f_X5_44 (by first | exact is_lit hv (by decide) rfl | exact is_sq hv hq | exact is_row hv hq | exact is_pn hv hq (by assumption) | assumption) rfl (by first | exact rf hv rfl | exact rf_row hv hq | assumption) ?_
      refine ok_callV (M' := mX5_moveAll) (b' := (0, 0)) (As := [_, _]) (cx := 5) dX5_square_112 iX5_moveAll w_992 (by decide) rfl (by first | exact is_lit hv (by decide) rfl | exact is_sq hv hq | exact is_row hv hq | exact is_pn hv hq (by assumption) | assumption) rfl (Nat.le_of_ble_eq_true rfl) ⟨Nat.le_of_ble_eq_true rfl, Nat.le_of_ble_eq_true rfl⟩ (Nat.le_of_ble_eq_true rfl) rfl rfl ?_
      refine sp_X5_moveAll_r (by exact hv) sto3 ?_
      have E61 : RM 61 (uI (uI h3 49 13 0) 49 7 0) n0 r0 := R61.fr ((uI_f (by decide)).trans ((uI_f (by decide)).trans (F.2.1 61 (by decide) (by decide))))
      have QZ : QS h0 (uI (uI h3 49 13 0) 49 7 0) := (Q0.tr (F.tr FA.g.fy).ql).qs
      refine ok_iconst (v := -1) dX5_square_115 (by decide) ?_
      refine ok_aload_n dX5_square_116 rfl rfl ?_
      refine ok_getI dX5_square_117 f_X5_166 (by first | exact is_lit hv (by decide) rfl | exact is_sq hv hq | exact is_row hv hq | exact is_pn hv hq (by assumption) | assumption) rfl ?_
      rw [show hI (cpI (uI (uI h3 49 13 0) 49 7 0) 61 50 77) 49 9 = nI (tF T z (i_item T z k n r).2.1) from (cpI_o (by decide)).trans ((at_un (by decide)).trans ((at_un (by decide)).trans T3.2.1))]
      refine ok_isub dX5_square_120 ?_
      refine ok_ireturn dX5_square_121 rfl rfl ?_
      exact K0 hng _ QZ.cp E61.cp
theorem sp_X5_square {g : GG} {h : Hp} {Post : Option Value → Hp → Prop} (hv : Inv h) {n : Nat} {r : Nat → Int32} (R : RM 50 h n r) {T : Nat → Nat} {z : Nat} (B : MT h T z) (K0 : (i_all T z 120 1 0 n r).1 < 0 → ∀ h', QS h h' → RM 50 h' n r → Post (some (.int (i_all T z 120 1 0 n r).1)) h') (K1 : ¬ (i_all T z 120 1 0 n r).1 < 0 → ∀ h', QS h h' → RM 50 h' (i_all T z 120 1 0 n r).2.1 (i_all T z 120 1 0 n r).2.2 → Post (some (.int (i_all T z 120 1 0 n r).1)) h') : Sp g mX5_square [.ref 49] h Post := by
  show Go g mX5_square 0 [_, _, _] [] _ _ _
  have hz := B.1
  refine ok_aload_n dX5_square_0 rfl rfl ?_
  refine ok_iconst (v := 1) dX5_square_1 (by decide) ?_
  refine ok_aload_n dX5_square_2 rfl rfl ?_
  refine ok_getR dX5_square_3 f_X5_44 (by first | exact is_lit hv (by decide) rfl | exact is_sq hv hq | exact is_row hv hq | exact is_pn hv hq (by assumption) | assumption) rfl (by first | exact rf hv rfl | exact rf_row hv hq | assumption) ?_
  refine ok_callV (M' := mX5_moveAll) (b' := (0, 0)) (As := [_, _]) (cx := 5) dX5_square_6 iX5_moveAll w_992 (by decide) rfl (by first | exact is_lit hv (by decide) rfl | exact is_sq hv hq | exact is_row hv hq | exact is_pn hv hq (by assumption) | assumption) rfl (Nat.le_of_ble_eq_true rfl) ⟨Nat.le_of_ble_eq_true rfl, Nat.le_of_ble_eq_true rfl⟩ (Nat.le_of_ble_eq_true rfl) rfl rfl ?_
  refine sp_X5_moveAll_k hv sto3 ?_
  have B1 : MT (cpI h 50 61 77) T z := ⟨B.1, (cpI_o (by decide)).trans B.2.1, B.2.2.1, fun i hi => (cpI_o (by decide)).trans (B.2.2.2 i hi)⟩
  have FY1 : FY (cpI h 50 61 77) (uI (uI (cpI h 50 61 77) 49 10 0) 49 13 1) := ((FA.rf.u (by decide) (by decide)).u (by decide) (by decide)).fy
  have R1 : RM 50 (uI (uI (cpI h 50 61 77) 49 10 0) 49 13 1) n r := ((R.cs (d := 61) (by decide)).fr (h' := uI (cpI h 50 61 77) 49 10 0) (uI_f (by decide))).fr (uI_f (by decide))
  refine ok_aload_n dX5_square_9 rfl rfl ?_
  refine ok_iconst (v := 0) dX5_square_10 (by decide) ?_
  refine ok_putI dX5_square_11 f_X5_163 (by first | exact is_lit hv (by decide) rfl | exact is_sq hv hq | exact is_row hv hq | exact is_pn hv hq (by assumption) | assumption) rfl rfl rfl rfl ?_
  refine ok_aload_n dX5_square_14 rfl rfl ?_
  refine ok_iconst (v := 1) dX5_square_15 (by decide) ?_
  refine ok_putI dX5_square_16 f_X5_210 (by first | exact is_lit hv (by decide) rfl | exact is_sq hv hq | exact is_row hv hq | exact is_pn hv hq (by assumption) | assumption) rfl rfl rfl rfl ?_
  refine ok_iconst (v := 0) dX5_square_19 (by decide) ?_
  refine ok_istore_n (lo' := [_, _, _]) dX5_square_20 rfl (Nat.le_of_ble_eq_true rfl) rfl rfl ?_
  refine ok_iconst (v := 1) dX5_square_21 (by decide) ?_
  refine ok_istore_n (lo' := [_, _, _]) dX5_square_22 rfl (Nat.le_of_ble_eq_true rfl) rfl rfl ?_
  refine ok_iload_n dX5_square_23 rfl rfl ?_
  refine ok_if_eq (tgt := 71) dX5_square_24 (by decide) (fun c9 => absurd c9 (by decide)) (fun _ => ?_)
  exact lp_X5_square_27 (h2 := cpI h 50 61 77) hv B1 R.cp (QL.cp (Or.inr (Or.inr rfl))) 120 0 _ 0 n r (by omega) (by omega) FY1 (Nat.zero_le z) ((at_un (by decide)).trans at_uI) at_uI R1 K0 K1
