/-! ===== the law: its loop, its start ===== -/
theorem and63 (x : Int32) : ∃ t : Nat, t < 64 ∧ x &&& 63 = nI t := by
  refine ⟨(x &&& 63).toBitVec.toNat, ?_, ?_⟩
  · rw [Int32.toBitVec_and, BitVec.toNat_and]
    exact Nat.lt_of_le_of_lt Nat.and_le_right (by decide)
  · generalize x &&& 63 = y
    apply Int32.toBitVec_inj.mp
    show y.toBitVec = BitVec.ofNat 32 y.toBitVec.toNat
    rw [BitVec.ofNat_toNat, BitVec.setWidth_eq]
theorem end_i {L i : Nat} (hL : L ≤ 3072) (hi : i ≤ 3072) : nI L - 6 < nI i ↔ L < i + 6 := by
  have e6 : (6 : Int32).toInt = 6 := rfl
  rw [i_lt, fb_subI (by rw [nI_toInt (by omega), e6]; omega) (by rw [nI_toInt (by omega), e6]; omega), nI_toInt (by omega), nI_toInt (by omega), e6]
  omega
theorem hZ_le : LE hZ := by
  have G0 : RG (fun _ => 0) 0 := ⟨by decide, rfl, Or.inl rfl, Or.inl rfl, fun p hp => absurd hp (by omega)⟩
  refine ⟨0, fun _ => 0, fun _ => 0, 0, 0, fun _ => 0, ⟨hZ_inv, ⟨by decide, rfl, rfl, fun k hk => rfl, fun p f hp => absurd hp (by omega)⟩, G0⟩, ⟨by decide, rfl, fun k hk => rfl, fun p f hp => absurd hp (by omega)⟩, fun k hk => rfl, ⟨⟨by decide, rfl, fun i => by show 0 < 256; decide, fun i hi => absurd hi (by omega)⟩, by decide, rfl, fun i => by show 0 < 256; decide, fun i hi => absurd hi (by omega)⟩, ⟨fun s hs => ⟨Or.inl rfl, 0, by decide, rfl⟩, fun s hs => ⟨rfl, rfl, fun j hj => rfl⟩⟩, ⟨by decide, rfl, rfl, fun k hk => rfl, fun p f hp => absurd hp (by omega)⟩, G0, ⟨by decide, rfl, fun k hk => rfl, fun p f hp => absurd hp (by omega)⟩, Or.inl rfl, rfl⟩
theorem law_loop {g : GG} {nm : String} {Post : Option Value → Hp → Prop} {L : Nat} {xs : Nat → Int32} (Xs : Sx g L xs) (X : Gx g) (hL : L ≤ 3072) (K : ∀ h, Post (some (.int 1)) h) : ∀ (k i : Nat) (h : Hp), LE h → L < i + 6 * (k + 1) → i ≤ 3072 → Go g (mLaw nm) 18 [some (.ref 5000), some (.ref 0), some (.ref 49), some (.int (nI i))] [] h (0, 0) Post := by
  intro k
  induction k with
  | zero =>
    intro i h E hk hi
    refine ok_iload_n dL_law_18 rfl rfl ?_
    refine ok_aload_n dL_law_19 rfl rfl ?_
    refine ok_slen dL_law_20 Xs ?_
    refine ok_bipush (v := 6) dL_law_21 (by decide) ?_
    refine ok_isub dL_law_23 ?_
    refine ok_icmp_gt (tgt := 1312) dL_law_24 (by decide) (fun _ => ?_) (fun c9 => absurd ((end_i hL hi).mpr (by omega)) c9)
    refine ok_iconst (v := 1) dL_law_1312 (by decide) ?_
    refine ok_ireturn dL_law_1313 rfl rfl ?_
    exact K h
  | succ k ih =>
    intro i h E hk hi
    by_cases c6 : L < i + 6
    · refine ok_iload_n dL_law_18 rfl rfl ?_
      refine ok_aload_n dL_law_19 rfl rfl ?_
      refine ok_slen dL_law_20 Xs ?_
      refine ok_bipush (v := 6) dL_law_21 (by decide) ?_
      refine ok_isub dL_law_23 ?_
      refine ok_icmp_gt (tgt := 1312) dL_law_24 (by decide) (fun _ => ?_) (fun c9 => absurd ((end_i hL hi).mpr c6) c9)
      refine ok_iconst (v := 1) dL_law_1312 (by decide) ?_
      refine ok_ireturn dL_law_1313 rfl rfl ?_
      exact K h
    · have h6 : i + 6 ≤ L := by omega
      have KN : ∀ h2, LE h2 → Go g (mLaw nm) 1306 [some (.ref 5000), some (.ref 0), some (.ref 49), some (.int (nI i))] [] h2 (0, 0) Post := by
        intro h2 E2
        refine ok_iinc (v := _ + 6) (lo' := [_, _, _, _]) dL_law_1306 rfl rfl (Nat.le_of_ble_eq_true rfl) rfl rfl ?_
        refine ok_goto (tgt := 18) dL_law_1309 (by decide) ?_
        rw [show nI i + 6 = nI (i + 6) from nI_pl (a := i) (b := 6) (by omega)]
        exact ih (i + 6) h2 E2 (by omega) (by omega)
      refine ok_iload_n dL_law_18 rfl rfl ?_
      refine ok_aload_n dL_law_19 rfl rfl ?_
      refine ok_slen dL_law_20 Xs ?_
      refine ok_bipush (v := 6) dL_law_21 (by decide) ?_
      refine ok_isub dL_law_23 ?_
      refine ok_icmp_gt (tgt := 1312) dL_law_24 (by decide) (fun c9 => absurd c9 (fun c => c6 ((end_i hL hi).mp c))) (fun _ => ?_)
      refine ok_aload_n dL_law_27 rfl rfl ?_
      refine ok_iload_n dL_law_28 rfl rfl ?_
      refine ok_sld dL_law_29 Xs (show i < L by omega) hL ?_
      refine ok_bipush (v := 63) dL_law_30 (by decide) ?_
      refine ok_iand dL_law_32 ?_
      obtain ⟨t, ht, et⟩ := and63 (xs i)
      rw [et]
      by_cases c43 : t < 43
      · rcases (show t = 0 ∨ t = 1 ∨ t = 2 ∨ t = 3 ∨ t = 4 ∨ t = 5 ∨ t = 6 ∨ t = 7 ∨ t = 8 ∨ t = 9 ∨ t = 10 ∨ t = 11 ∨ t = 12 ∨ t = 13 ∨ t = 14 ∨ t = 15 ∨ t = 16 ∨ t = 17 ∨ t = 18 ∨ t = 19 ∨ t = 20 ∨ t = 21 ∨ t = 22 ∨ t = 23 ∨ t = 24 ∨ t = 25 ∨ t = 26 ∨ t = 27 ∨ t = 28 ∨ t = 29 ∨ t = 30 ∨ t = 31 ∨ t = 32 ∨ t = 33 ∨ t = 34 ∨ t = 35 ∨ t = 36 ∨ t = 37 ∨ t = 38 ∨ t = 39 ∨ t = 40 ∨ t = 41 ∨ t = 42 by omega) with rfl | rfl | rfl | rfl | rfl | rfl | rfl | rfl | rfl | rfl | rfl | rfl | rfl | rfl | rfl | rfl | rfl | rfl | rfl | rfl | rfl | rfl | rfl | rfl | rfl | rfl | rfl | rfl | rfl | rfl | rfl | rfl | rfl | rfl | rfl | rfl | rfl | rfl | rfl | rfl | rfl | rfl | rfl
        · exact ok_tableIn (tgt := 220) (off := 187) dL_law_33 (by decide) (by decide) (by decide) (by decide) (lc_0 Xs X hL h6 E KN)
        · exact ok_tableIn (tgt := 243) (off := 210) dL_law_33 (by decide) (by decide) (by decide) (by decide) (lc_1 Xs X hL h6 E KN)
        · exact ok_tableIn (tgt := 276) (off := 243) dL_law_33 (by decide) (by decide) (by decide) (by decide) (lc_2 Xs X hL h6 E KN)
        · exact ok_tableIn (tgt := 319) (off := 286) dL_law_33 (by decide) (by decide) (by decide) (by decide) (lc_3 Xs X hL h6 E KN)
        · exact ok_tableIn (tgt := 352) (off := 319) dL_law_33 (by decide) (by decide) (by decide) (by decide) (lc_4 Xs X hL h6 E KN)
        · exact ok_tableIn (tgt := 385) (off := 352) dL_law_33 (by decide) (by decide) (by decide) (by decide) (lc_5 Xs X hL h6 E KN)
        · exact ok_tableIn (tgt := 418) (off := 385) dL_law_33 (by decide) (by decide) (by decide) (by decide) (lc_6 Xs X hL h6 E KN)
        · exact ok_tableIn (tgt := 441) (off := 408) dL_law_33 (by decide) (by decide) (by decide) (by decide) (lc_7 Xs X hL h6 E KN)
        · exact ok_tableIn (tgt := 464) (off := 431) dL_law_33 (by decide) (by decide) (by decide) (by decide) (lc_8 Xs X hL h6 E KN)
        · exact ok_tableIn (tgt := 487) (off := 454) dL_law_33 (by decide) (by decide) (by decide) (by decide) (lc_9 Xs X hL h6 E KN)
        · exact ok_tableIn (tgt := 536) (off := 503) dL_law_33 (by decide) (by decide) (by decide) (by decide) (lc_10 Xs X hL h6 E KN)
        · exact ok_tableIn (tgt := 559) (off := 526) dL_law_33 (by decide) (by decide) (by decide) (by decide) (lc_11 Xs X hL h6 E KN)
        · exact ok_tableIn (tgt := 582) (off := 549) dL_law_33 (by decide) (by decide) (by decide) (by decide) (lc_12 Xs X hL h6 E KN)
        · exact ok_tableIn (tgt := 595) (off := 562) dL_law_33 (by decide) (by decide) (by decide) (by decide) (lc_13 Xs X hL h6 E KN)
        · exact ok_tableIn (tgt := 618) (off := 585) dL_law_33 (by decide) (by decide) (by decide) (by decide) (lc_14 Xs X hL h6 E KN)
        · exact ok_tableIn (tgt := 641) (off := 608) dL_law_33 (by decide) (by decide) (by decide) (by decide) (lc_15 Xs X hL h6 E KN)
        · exact ok_tableIn (tgt := 654) (off := 621) dL_law_33 (by decide) (by decide) (by decide) (by decide) (lc_16 Xs X hL h6 E KN)
        · exact ok_tableIn (tgt := 687) (off := 654) dL_law_33 (by decide) (by decide) (by decide) (by decide) (lc_17 Xs X hL h6 E KN)
        · exact ok_tableIn (tgt := 700) (off := 667) dL_law_33 (by decide) (by decide) (by decide) (by decide) (lc_18 Xs X hL h6 E KN)
        · exact ok_tableIn (tgt := 733) (off := 700) dL_law_33 (by decide) (by decide) (by decide) (by decide) (lc_19 Xs X hL h6 E KN)
        · exact ok_tableIn (tgt := 756) (off := 723) dL_law_33 (by decide) (by decide) (by decide) (by decide) (lc_20 Xs X hL h6 E KN)
        · exact ok_tableIn (tgt := 769) (off := 736) dL_law_33 (by decide) (by decide) (by decide) (by decide) (lc_21 Xs X hL h6 E KN)
        · exact ok_tableIn (tgt := 792) (off := 759) dL_law_33 (by decide) (by decide) (by decide) (by decide) (lc_22 Xs X hL h6 E KN)
        · exact ok_tableIn (tgt := 815) (off := 782) dL_law_33 (by decide) (by decide) (by decide) (by decide) (lc_23 Xs X hL h6 E KN)
        · exact ok_tableIn (tgt := 838) (off := 805) dL_law_33 (by decide) (by decide) (by decide) (by decide) (lc_24 Xs X hL h6 E KN)
        · exact ok_tableIn (tgt := 851) (off := 818) dL_law_33 (by decide) (by decide) (by decide) (by decide) (lc_25 Xs X hL h6 E KN)
        · exact ok_tableIn (tgt := 864) (off := 831) dL_law_33 (by decide) (by decide) (by decide) (by decide) (lc_26 Xs X hL h6 E KN)
        · exact ok_tableIn (tgt := 877) (off := 844) dL_law_33 (by decide) (by decide) (by decide) (by decide) (lc_27 Xs X hL h6 E KN)
        · exact ok_tableIn (tgt := 890) (off := 857) dL_law_33 (by decide) (by decide) (by decide) (by decide) (lc_28 Xs X hL h6 E KN)
        · exact ok_tableIn (tgt := 903) (off := 870) dL_law_33 (by decide) (by decide) (by decide) (by decide) (lc_29 Xs X hL h6 E KN)
        · exact ok_tableIn (tgt := 936) (off := 903) dL_law_33 (by decide) (by decide) (by decide) (by decide) (lc_30 Xs X hL h6 E KN)
        · exact ok_tableIn (tgt := 949) (off := 916) dL_law_33 (by decide) (by decide) (by decide) (by decide) (lc_31 Xs X hL h6 E KN)
        · exact ok_tableIn (tgt := 962) (off := 929) dL_law_33 (by decide) (by decide) (by decide) (by decide) (lc_32 Xs X hL h6 E KN)
        · exact ok_tableIn (tgt := 1005) (off := 972) dL_law_33 (by decide) (by decide) (by decide) (by decide) (lc_33 Xs X hL h6 E KN)
        · exact ok_tableIn (tgt := 1079) (off := 1046) dL_law_33 (by decide) (by decide) (by decide) (by decide) (lc_34 Xs X hL h6 E KN)
        · exact ok_tableIn (tgt := 1142) (off := 1109) dL_law_33 (by decide) (by decide) (by decide) (by decide) (lc_35 Xs X hL h6 E KN)
        · exact ok_tableIn (tgt := 1165) (off := 1132) dL_law_33 (by decide) (by decide) (by decide) (by decide) (lc_36 Xs X hL h6 E KN)
        · exact ok_tableIn (tgt := 1188) (off := 1155) dL_law_33 (by decide) (by decide) (by decide) (by decide) (lc_37 Xs X hL h6 E KN)
        · exact ok_tableIn (tgt := 1221) (off := 1188) dL_law_33 (by decide) (by decide) (by decide) (by decide) (lc_38 Xs X hL h6 E KN)
        · exact ok_tableIn (tgt := 1234) (off := 1201) dL_law_33 (by decide) (by decide) (by decide) (by decide) (lc_39 Xs X hL h6 E KN)
        · exact ok_tableIn (tgt := 1247) (off := 1214) dL_law_33 (by decide) (by decide) (by decide) (by decide) (lc_40 Xs X hL h6 E KN)
        · exact ok_tableIn (tgt := 1260) (off := 1227) dL_law_33 (by decide) (by decide) (by decide) (by decide) (lc_41 Xs X hL h6 E KN)
        · exact ok_tableIn (tgt := 1283) (off := 1250) dL_law_33 (by decide) (by decide) (by decide) (by decide) (lc_42 Xs X hL h6 E KN)
      · exact ok_tableOut (tgt := 1306) dL_law_33 (Or.inr (by rw [nI_toInt (by omega)]; omega)) (by decide) (KN h E)
theorem law_start {g : GG} {nm : String} {Post : Option Value → Hp → Prop} {L : Nat} {xs : Nat → Int32} (Xs : Sx g L xs) (X : Gx g) (hL : L ≤ 3072) (K : ∀ h, Post (some (.int 1)) h) : Go g (mLaw nm) 0 [some (.ref 5000), none, none, none] [] (Zh (fun _ _ => none) (fun _ => (99, 0)) 0) (62, 1264) Post := by
  refine ok_new (c := 4) (b' := (61, 1257)) dL_law_0 (by decide) w_78 w_79 w_65 (show 0 < 1000 by decide) rfl rfl ?_
  rw [zb, zn]
  refine ok_dup dL_law_3 rfl ?_
  refine ok_callI (M' := mX4_init) (b' := (13, 684)) (As := []) dL_law_4 iX4_init w_80 rfl (Nat.le_of_ble_eq_true rfl) ⟨Nat.le_of_ble_eq_true rfl, Nat.le_of_ble_eq_true rfl⟩ (Nat.le_of_ble_eq_true rfl) rfl rfl ?_
  refine sp_X4_init X bK_y ?_
  refine ok_astore_n (lo' := [_, _, _, _]) dL_law_7 rfl (Nat.le_of_ble_eq_true rfl) rfl rfl ?_
  refine ok_new (c := 5) (b' := (12, 663)) dL_law_8 (by decide) w_769 w_770 w_70 (show 49 < 1000 by decide) rfl rfl ?_
  rw [zb, zn]
  refine ok_dup dL_law_11 rfl ?_
  refine ok_callI (M' := mX5_init) (b' := (0, 0)) (As := []) dL_law_12 iX5_init w_771 rfl (Nat.le_of_ble_eq_true rfl) ⟨Nat.le_of_ble_eq_true rfl, Nat.le_of_ble_eq_true rfl⟩ (Nat.le_of_ble_eq_true rfl) rfl rfl ?_
  refine sp_X5_init bK_y ?_
  refine ok_astore_n (lo' := [_, _, _, _]) dL_law_15 rfl (Nat.le_of_ble_eq_true rfl) rfl rfl ?_
  refine ok_iconst (v := 0) dL_law_16 (by decide) ?_
  refine ok_istore_n (lo' := [_, _, _, _]) dL_law_17 rfl (Nat.le_of_ble_eq_true rfl) rfl rfl ?_
  exact law_loop Xs X hL K (L / 6 + 1) 0 hZ hZ_le (by omega) (by omega)
