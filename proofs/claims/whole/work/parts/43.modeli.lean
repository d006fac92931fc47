def ARM (cy : Nat → ClassId) (j : Nat) : va_E := .inl (cy (KM (j + 1)), lenM (j + 1), .inl (fun _ => 0))
theorem accM {cy : Nat → ClassId} {ce ce1 ce2 : Nat → va_E} {k : Nat} (h : ∀ j, j < k → ce (85 + j) = ARM cy j) (h3 : ce1 (85 + k) = ARM cy k) (h4 : ∀ j, j ≠ 85 + k → ce1 j = ce j) (g2 : ∀ j, j ≠ 84 → ce2 j = ce1 j) : ∀ j, j < k + 1 → ce2 (85 + j) = ARM cy j := by
  intro j hj
  rw [g2 _ (by omega)]
  by_cases e : j = k
  · subst e; exact h3
  · rw [h4 _ (by omega)]; exact h j (by omega)
theorem v_761 : Cond.methodLink RX10 1 Lib.objectInit ∈ TBL := mTi 761 (by decide +kernel) rfl
theorem v_764 : Cond.fieldLink RX10 7 RX10 "kinds" "[I" ∈ TBL := mTi 764 (by decide +kernel) rfl
theorem fF_10_7 : FfX RX10 7 10 2 (.array .int) := ⟨RX10, TX10, 41, tyX10, rfl, inT_10, by decide, rfl, v_764, tyX10_ok, nmX10, rfl, rfl, rfl⟩
theorem v_765 : Cond.fieldLink RX10 13 RX10 "strength" "[I" ∈ TBL := mTi 765 (by decide +kernel) rfl
theorem fF_10_13 : FfX RX10 13 10 3 (.array .int) := ⟨RX10, TX10, 41, tyX10, rfl, inT_10, by decide, rfl, v_765, tyX10_ok, nmX10, rfl, rfl, rfl⟩
theorem v_766 : Cond.fieldLink RX10 16 RX10 "houses" "[I" ∈ TBL := mTi 766 (by decide +kernel) rfl
theorem fF_10_16 : FfX RX10 16 10 4 (.array .int) := ⟨RX10, TX10, 41, tyX10, rfl, inT_10, by decide, rfl, v_766, tyX10_ok, nmX10, rfl, rfl, rfl⟩
theorem v_767 : Cond.fieldLink RX10 19 RX10 "wheel" "[I" ∈ TBL := mTi 767 (by decide +kernel) rfl
theorem fF_10_19 : FfX RX10 19 10 5 (.array .int) := ⟨RX10, TX10, 41, tyX10, rfl, inT_10, by decide, rfl, v_767, tyX10_ok, nmX10, rfl, rfl, rfl⟩
theorem v_768 : Cond.fieldLink RX10 22 RX10 "rules" "[I" ∈ TBL := mTi 768 (by decide +kernel) rfl
theorem fF_10_22 : FfX RX10 22 10 6 (.array .int) := ⟨RX10, TX10, 41, tyX10, rfl, inT_10, by decide, rfl, v_768, tyX10_ok, nmX10, rfl, rfl, rfl⟩
theorem v_769 : Cond.fieldLink RX10 25 RX10 "isThere" "[Z" ∈ TBL := mTi 769 (by decide +kernel) rfl
theorem fF_10_25 : FfX RX10 25 10 7 (.array .boolean) := ⟨RX10, TX10, 41, tyX10, rfl, inT_10, by decide, rfl, v_769, tyX10_ok, nmX10, rfl, rfl, rfl⟩
theorem v_770 : Cond.fieldLink RX10 29 RX10 "width" "[I" ∈ TBL := mTi 770 (by decide +kernel) rfl
theorem fF_10_29 : FfX RX10 29 10 8 (.array .int) := ⟨RX10, TX10, 41, tyX10, rfl, inT_10, by decide, rfl, v_770, tyX10_ok, nmX10, rfl, rfl, rfl⟩
theorem v_771 : Cond.fieldLink RX10 32 RX10 "places" "[I" ∈ TBL := mTi 771 (by decide +kernel) rfl
theorem fF_10_32 : FfX RX10 32 10 9 (.array .int) := ⟨RX10, TX10, 41, tyX10, rfl, inT_10, by decide, rfl, v_771, tyX10_ok, nmX10, rfl, rfl, rfl⟩
theorem v_772 : Cond.fieldLink RX10 35 RX10 "numbers" "[I" ∈ TBL := mTi 772 (by decide +kernel) rfl
theorem fF_10_35 : FfX RX10 35 10 10 (.array .int) := ⟨RX10, TX10, 41, tyX10, rfl, inT_10, by decide, rfl, v_772, tyX10_ok, nmX10, rfl, rfl, rfl⟩
theorem v_773 : Cond.fieldLink RX10 38 RX10 "tape" "[I" ∈ TBL := mTi 773 (by decide +kernel) rfl
theorem fF_10_38 : FfX RX10 38 10 11 (.array .int) := ⟨RX10, TX10, 41, tyX10, rfl, inT_10, by decide, rfl, v_773, tyX10_ok, nmX10, rfl, rfl, rfl⟩
theorem v_776 : Cond.fieldLink RX10 41 RX10 "pEnd" "[I" ∈ TBL := mTi 776 (by decide +kernel) rfl
theorem fF_10_41 : FfX RX10 41 10 14 (.array .int) := ⟨RX10, TX10, 41, tyX10, rfl, inT_10, by decide, rfl, v_776, tyX10_ok, nmX10, rfl, rfl, rfl⟩
theorem v_777 : Cond.fieldLink RX10 44 RX10 "pFrom" "[I" ∈ TBL := mTi 777 (by decide +kernel) rfl
theorem fF_10_44 : FfX RX10 44 10 15 (.array .int) := ⟨RX10, TX10, 41, tyX10, rfl, inT_10, by decide, rfl, v_777, tyX10_ok, nmX10, rfl, rfl, rfl⟩
theorem v_778 : Cond.fieldLink RX10 47 RX10 "pTill" "[I" ∈ TBL := mTi 778 (by decide +kernel) rfl
theorem fF_10_47 : FfX RX10 47 10 16 (.array .int) := ⟨RX10, TX10, 41, tyX10, rfl, inT_10, by decide, rfl, v_778, tyX10_ok, nmX10, rfl, rfl, rfl⟩
theorem v_779 : Cond.fieldLink RX10 50 RX10 "pYearly" "[I" ∈ TBL := mTi 779 (by decide +kernel) rfl
theorem fF_10_50 : FfX RX10 50 10 17 (.array .int) := ⟨RX10, TX10, 41, tyX10, rfl, inT_10, by decide, rfl, v_779, tyX10_ok, nmX10, rfl, rfl, rfl⟩
theorem v_780 : Cond.fieldLink RX10 53 RX10 "pGives" "[I" ∈ TBL := mTi 780 (by decide +kernel) rfl
theorem fF_10_53 : FfX RX10 53 10 18 (.array .int) := ⟨RX10, TX10, 41, tyX10, rfl, inT_10, by decide, rfl, v_780, tyX10_ok, nmX10, rfl, rfl, rfl⟩
theorem v_781 : Cond.fieldLink RX10 56 RX10 "coins" "[I" ∈ TBL := mTi 781 (by decide +kernel) rfl
theorem fF_10_56 : FfX RX10 56 10 19 (.array .int) := ⟨RX10, TX10, 41, tyX10, rfl, inT_10, by decide, rfl, v_781, tyX10_ok, nmX10, rfl, rfl, rfl⟩
theorem v_782 : Cond.fieldLink RX10 59 RX10 "cameAll" "[I" ∈ TBL := mTi 782 (by decide +kernel) rfl
theorem fF_10_59 : FfX RX10 59 10 20 (.array .int) := ⟨RX10, TX10, 41, tyX10, rfl, inT_10, by decide, rfl, v_782, tyX10_ok, nmX10, rfl, rfl, rfl⟩
theorem v_783 : Cond.fieldLink RX10 62 RX10 "lapsedAll" "[I" ∈ TBL := mTi 783 (by decide +kernel) rfl
theorem fF_10_62 : FfX RX10 62 10 21 (.array .int) := ⟨RX10, TX10, 41, tyX10, rfl, inT_10, by decide, rfl, v_783, tyX10_ok, nmX10, rfl, rfl, rfl⟩
theorem v_784 : Cond.fieldLink RX10 65 RX10 "spentOf" "[I" ∈ TBL := mTi 784 (by decide +kernel) rfl
theorem fF_10_65 : FfX RX10 65 10 22 (.array .int) := ⟨RX10, TX10, 41, tyX10, rfl, inT_10, by decide, rfl, v_784, tyX10_ok, nmX10, rfl, rfl, rfl⟩
theorem v_785 : Cond.fieldLink RX10 68 RX10 "book" "[I" ∈ TBL := mTi 785 (by decide +kernel) rfl
theorem fF_10_68 : FfX RX10 68 10 23 (.array .int) := ⟨RX10, TX10, 41, tyX10, rfl, inT_10, by decide, rfl, v_785, tyX10_ok, nmX10, rfl, rfl, rfl⟩
theorem v_788 : Cond.fieldLink RX10 71 RX10 "rolls" "[I" ∈ TBL := mTi 788 (by decide +kernel) rfl
theorem fF_10_71 : FfX RX10 71 10 26 (.array .int) := ⟨RX10, TX10, 41, tyX10, rfl, inT_10, by decide, rfl, v_788, tyX10_ok, nmX10, rfl, rfl, rfl⟩
theorem v_789 : Cond.fieldLink RX10 74 RX10 "s" "[I" ∈ TBL := mTi 789 (by decide +kernel) rfl
theorem fF_10_74 : FfX RX10 74 10 27 (.array .int) := ⟨RX10, TX10, 41, tyX10, rfl, inT_10, by decide, rfl, v_789, tyX10_ok, nmX10, rfl, rfl, rfl⟩
theorem v_790 : Cond.fieldLink RX10 77 RX10 "hs" "[I" ∈ TBL := mTi 790 (by decide +kernel) rfl
theorem fF_10_77 : FfX RX10 77 10 28 (.array .int) := ⟨RX10, TX10, 41, tyX10, rfl, inT_10, by decide, rfl, v_790, tyX10_ok, nmX10, rfl, rfl, rfl⟩
theorem v_791 : Cond.fieldLink RX10 80 RX10 "ws" "[I" ∈ TBL := mTi 791 (by decide +kernel) rfl
theorem fF_10_80 : FfX RX10 80 10 29 (.array .int) := ⟨RX10, TX10, 41, tyX10, rfl, inT_10, by decide, rfl, v_791, tyX10_ok, nmX10, rfl, rfl, rfl⟩
theorem v_792 : Cond.fieldLink RX10 83 RX10 "losses" "[I" ∈ TBL := mTi 792 (by decide +kernel) rfl
theorem fF_10_83 : FfX RX10 83 10 30 (.array .int) := ⟨RX10, TX10, 41, tyX10, rfl, inT_10, by decide, rfl, v_792, tyX10_ok, nmX10, rfl, rfl, rfl⟩
theorem v_793 : Cond.fieldLink RX10 86 RX10 "carried" "[I" ∈ TBL := mTi 793 (by decide +kernel) rfl
theorem fF_10_86 : FfX RX10 86 10 31 (.array .int) := ⟨RX10, TX10, 41, tyX10, rfl, inT_10, by decide, rfl, v_793, tyX10_ok, nmX10, rfl, rfl, rfl⟩
theorem v_802 : Cond.fieldLink RX10 89 RX10 "chosen" "[Z" ∈ TBL := mTi 802 (by decide +kernel) rfl
theorem fF_10_89 : FfX RX10 89 10 40 (.array .boolean) := ⟨RX10, TX10, 41, tyX10, rfl, inT_10, by decide, rfl, v_802, tyX10_ok, nmX10, rfl, rfl, rfl⟩
theorem v_775 : Cond.fieldLink RX10 92 RX10 "purses" "I" ∈ TBL := mTi 775 (by decide +kernel) rfl
theorem fP_10_92 : FpX RX10 92 10 13 .int := ⟨RX10, TX10, 41, tyX10, rfl, inT_10, by decide, rfl, Or.inl v_775, tyX10_ok, nmX10, rfl, rfl⟩
theorem fD_10_47 : FdX RX10 47 10 16 := ⟨RX10, TX10, 41, rfl, inT_10, by decide, rfl, Or.inl v_778⟩
set_option maxRecDepth 100000 in
set_option maxHeartbeats 8000000 in
theorem cI10 (l : Launch) (D : va_G) (cy : Nat → ClassId) (N0 : Nat) (ad : Nat → Nat) (ce : Nat → va_E) (a : Nat) (ha : ad 84 = a) (he : ce 84 = .inr (10, [.int 0, .int 0, .null, .null, .null, .null, .null, .null, .null, .null, .null, .null, .int 0, .int 0, .null, .null, .null, .null, .null, .null, .null, .null, .null, .null, .int 0, .int 0, .null, .null, .null, .null, .null, .null, .int 0, .int 0, .int 0, .int 0, .int 0, .int 0, .int 0, .int 0, .null])) : MB l D cy N0 yX10_init qI10 85 ad ce [.ref a] (fun cy n' ad' ce' => n' = 112 ∧ (∀ j, j < 85 → ad' j = ad j) ∧ (∀ j, j < 84 → ce' j = ce j) ∧ ce' 84 = .inr (10, [.int 0, .int 0, .ref (ad' 85), .ref (ad' 86), .ref (ad' 87), .ref (ad' 88), .ref (ad' 89), .ref (ad' 90), .ref (ad' 91), .ref (ad' 92), .ref (ad' 93), .ref (ad' 94), .int 0, .int 1, .ref (ad' 95), .ref (ad' 96), .ref (ad' 97), .ref (ad' 98), .ref (ad' 99), .ref (ad' 100), .ref (ad' 101), .ref (ad' 102), .ref (ad' 103), .ref (ad' 104), .int 0, .int 0, .ref (ad' 105), .ref (ad' 106), .ref (ad' 107), .ref (ad' 108), .ref (ad' 109), .ref (ad' 110), .int 0, .int 0, .int 0, .int 0, .int 0, .int 0, .int 0, .int 0, .ref (ad' 111)]) ∧ ∀ j, j < 27 → ce' (85 + j) = (if j = 12 then .inl (cy 12, 20, .inl (upd (fun _ => 0) 0 200)) else ARM cy j)) := mb_of (by decide) rfl rfl (Nat.le_of_ble_eq_true rfl) (fun E hI hcy => by
  refine b_aload_n 0 dX10_init_0 rfl rfl ?_
  refine b_obj v_761 v_74 v_75 ⟨Nat.le_of_ble_eq_true rfl, Nat.le_of_ble_eq_true rfl⟩ dX10_init_1 ?_
  have acc_0 : ∀ j, j < 0 → ce (85 + j) = ARM E.2.2.2 j := fun j h => by omega
  have h0_0 := he
  have hF_0 : ∀ j, j < 84 → ce j = ce j := fun _ _ => rfl
  have hD_0 : ∀ j, j < 85 → ad j = ad j := fun _ _ => rfl
  refine b_aload_n 0 dX10_init_4 rfl rfl ?_
  refine b_bipush (v := 10) dX10_init_5 (by decide) ?_
  refine b_newi (n := 85) (cells := 0) (slots := 0) v_239 (N := 10) (by decide) (by decide) (by decide) ⟨Nat.le_of_ble_eq_true rfl, Nat.le_of_ble_eq_true rfl⟩ dX10_init_7 (fun a0 ad0 ce0 h1_0 h2_0 h3_0 h4_0 => ?_)
  refine b_putF (n := 86) (cells := 1) (slots := 10) (i := 84) hI fF_10_7 (by omega) ((h2_0 84 (by omega)).trans ((hD_0 84 (by omega)).trans ha)) ((h4_0 84 (by omega)).trans h0_0) rfl rfl (Nat.le_of_ble_eq_true rfl) dX10_init_9 (fun ce0c g1_0 g2_0 => ?_)
  have h0_1 : ce0c 84 = .inr (10, [.int 0, .int 0, .ref (ad0 85), .null, .null, .null, .null, .null, .null, .null, .null, .null, .int 0, .int 0, .null, .null, .null, .null, .null, .null, .null, .null, .null, .null, .int 0, .int 0, .null, .null, .null, .null, .null, .null, .int 0, .int 0, .int 0, .int 0, .int 0, .int 0, .int 0, .int 0, .null]) := by
    rw [g1_0, ← h1_0]; rfl
  have acc_1 := accM acc_0 (ce1 := ce0) (ce2 := ce0c) h3_0 h4_0 g2_0
  have hF_1 : ∀ j, j < 84 → ce0c j = ce j := fun j hj => (g2_0 j (by omega)).trans ((h4_0 j (by omega)).trans (hF_0 j hj))
  have hD_1 : ∀ j, j < 85 → ad0 j = ad j := fun j hj => (h2_0 j (by omega)).trans (hD_0 j hj)
  refine b_aload_n 0 dX10_init_12 rfl rfl ?_
  refine b_bipush (v := 10) dX10_init_13 (by decide) ?_
  refine b_newi (n := 86) (cells := 1) (slots := 10) v_239 (N := 10) (by decide) (by decide) (by decide) ⟨Nat.le_of_ble_eq_true rfl, Nat.le_of_ble_eq_true rfl⟩ dX10_init_15 (fun a1 ad1 ce1 h1_1 h2_1 h3_1 h4_1 => ?_)
  refine b_putF (n := 87) (cells := 2) (slots := 20) (i := 84) hI fF_10_13 (by omega) ((h2_1 84 (by omega)).trans ((hD_1 84 (by omega)).trans ha)) ((h4_1 84 (by omega)).trans h0_1) rfl rfl (Nat.le_of_ble_eq_true rfl) dX10_init_17 (fun ce1c g1_1 g2_1 => ?_)
  have h0_2 : ce1c 84 = .inr (10, [.int 0, .int 0, .ref (ad1 85), .ref (ad1 86), .null, .null, .null, .null, .null, .null, .null, .null, .int 0, .int 0, .null, .null, .null, .null, .null, .null, .null, .null, .null, .null, .int 0, .int 0, .null, .null, .null, .null, .null, .null, .int 0, .int 0, .int 0, .int 0, .int 0, .int 0, .int 0, .int 0, .null]) := by
    rw [g1_1, ← h2_1 85 (by omega), ← h1_1]; rfl
  have acc_2 := accM acc_1 (ce1 := ce1) (ce2 := ce1c) h3_1 h4_1 g2_1
  have hF_2 : ∀ j, j < 84 → ce1c j = ce j := fun j hj => (g2_1 j (by omega)).trans ((h4_1 j (by omega)).trans (hF_1 j hj))
  have hD_2 : ∀ j, j < 85 → ad1 j = ad j := fun j hj => (h2_1 j (by omega)).trans (hD_1 j hj)
  refine b_aload_n 0 dX10_init_20 rfl rfl ?_
  refine b_bipush (v := 10) dX10_init_21 (by decide) ?_
  refine b_newi (n := 87) (cells := 2) (slots := 20) v_239 (N := 10) (by decide) (by decide) (by decide) ⟨Nat.le_of_ble_eq_true rfl, Nat.le_of_ble_eq_true rfl⟩ dX10_init_23 (fun a2 ad2 ce2 h1_2 h2_2 h3_2 h4_2 => ?_)
  refine b_putF (n := 88) (cells := 3) (slots := 30) (i := 84) hI fF_10_16 (by omega) ((h2_2 84 (by omega)).trans ((hD_2 84 (by omega)).trans ha)) ((h4_2 84 (by omega)).trans h0_2) rfl rfl (Nat.le_of_ble_eq_true rfl) dX10_init_25 (fun ce2c g1_2 g2_2 => ?_)
  have h0_3 : ce2c 84 = .inr (10, [.int 0, .int 0, .ref (ad2 85), .ref (ad2 86), .ref (ad2 87), .null, .null, .null, .null, .null, .null, .null, .int 0, .int 0, .null, .null, .null, .null, .null, .null, .null, .null, .null, .null, .int 0, .int 0, .null, .null, .null, .null, .null, .null, .int 0, .int 0, .int 0, .int 0, .int 0, .int 0, .int 0, .int 0, .null]) := by
    rw [g1_2, ← h2_2 85 (by omega), ← h2_2 86 (by omega), ← h1_2]; rfl
  have acc_3 := accM acc_2 (ce1 := ce2) (ce2 := ce2c) h3_2 h4_2 g2_2
  have hF_3 : ∀ j, j < 84 → ce2c j = ce j := fun j hj => (g2_2 j (by omega)).trans ((h4_2 j (by omega)).trans (hF_2 j hj))
  have hD_3 : ∀ j, j < 85 → ad2 j = ad j := fun j hj => (h2_2 j (by omega)).trans (hD_2 j hj)
  refine b_aload_n 0 dX10_init_28 rfl rfl ?_
  refine b_bipush (v := 10) dX10_init_29 (by decide) ?_
  refine b_newi (n := 88) (cells := 3) (slots := 30) v_239 (N := 10) (by decide) (by decide) (by decide) ⟨Nat.le_of_ble_eq_true rfl, Nat.le_of_ble_eq_true rfl⟩ dX10_init_31 (fun a3 ad3 ce3 h1_3 h2_3 h3_3 h4_3 => ?_)
  refine b_putF (n := 89) (cells := 4) (slots := 40) (i := 84) hI fF_10_19 (by omega) ((h2_3 84 (by omega)).trans ((hD_3 84 (by omega)).trans ha)) ((h4_3 84 (by omega)).trans h0_3) rfl rfl (Nat.le_of_ble_eq_true rfl) dX10_init_33 (fun ce3c g1_3 g2_3 => ?_)
  have h0_4 : ce3c 84 = .inr (10, [.int 0, .int 0, .ref (ad3 85), .ref (ad3 86), .ref (ad3 87), .ref (ad3 88), .null, .null, .null, .null, .null, .null, .int 0, .int 0, .null, .null, .null, .null, .null, .null, .null, .null, .null, .null, .int 0, .int 0, .null, .null, .null, .null, .null, .null, .int 0, .int 0, .int 0, .int 0, .int 0, .int 0, .int 0, .int 0, .null]) := by
    rw [g1_3, ← h2_3 85 (by omega), ← h2_3 86 (by omega), ← h2_3 87 (by omega), ← h1_3]; rfl
  have acc_4 := accM acc_3 (ce1 := ce3) (ce2 := ce3c) h3_3 h4_3 g2_3
  have hF_4 : ∀ j, j < 84 → ce3c j = ce j := fun j hj => (g2_3 j (by omega)).trans ((h4_3 j (by omega)).trans (hF_3 j hj))
  have hD_4 : ∀ j, j < 85 → ad3 j = ad j := fun j hj => (h2_3 j (by omega)).trans (hD_3 j hj)
  refine b_aload_n 0 dX10_init_36 rfl rfl ?_
  refine b_bipush (v := 6) dX10_init_37 (by decide) ?_
  refine b_newi (n := 89) (cells := 4) (slots := 40) v_239 (N := 6) (by decide) (by decide) (by decide) ⟨Nat.le_of_ble_eq_true rfl, Nat.le_of_ble_eq_true rfl⟩ dX10_init_39 (fun a4 ad4 ce4 h1_4 h2_4 h3_4 h4_4 => ?_)
  refine b_putF (n := 90) (cells := 5) (slots := 46) (i := 84) hI fF_10_22 (by omega) ((h2_4 84 (by omega)).trans ((hD_4 84 (by omega)).trans ha)) ((h4_4 84 (by omega)).trans h0_4) rfl rfl (Nat.le_of_ble_eq_true rfl) dX10_init_41 (fun ce4c g1_4 g2_4 => ?_)
  have h0_5 : ce4c 84 = .inr (10, [.int 0, .int 0, .ref (ad4 85), .ref (ad4 86), .ref (ad4 87), .ref (ad4 88), .ref (ad4 89), .null, .null, .null, .null, .null, .int 0, .int 0, .null, .null, .null, .null, .null, .null, .null, .null, .null, .null, .int 0, .int 0, .null, .null, .null, .null, .null, .null, .int 0, .int 0, .int 0, .int 0, .int 0, .int 0, .int 0, .int 0, .null]) := by
    rw [g1_4, ← h2_4 85 (by omega), ← h2_4 86 (by omega), ← h2_4 87 (by omega), ← h2_4 88 (by omega), ← h1_4]; rfl
  have acc_5 := accM acc_4 (ce1 := ce4) (ce2 := ce4c) h3_4 h4_4 g2_4
  have hF_5 : ∀ j, j < 84 → ce4c j = ce j := fun j hj => (g2_4 j (by omega)).trans ((h4_4 j (by omega)).trans (hF_4 j hj))
  have hD_5 : ∀ j, j < 85 → ad4 j = ad j := fun j hj => (h2_4 j (by omega)).trans (hD_4 j hj)
  refine b_aload_n 0 dX10_init_44 rfl rfl ?_
  refine b_iconst (v := 4) dX10_init_45 (by decide) ?_
  refine b_newz (n := 90) (cells := 5) (slots := 46) v_886 (N := 4) (by decide) (by decide) (by decide) ⟨Nat.le_of_ble_eq_true rfl, Nat.le_of_ble_eq_true rfl⟩ dX10_init_46 (fun a5 ad5 ce5 h1_5 h2_5 h3_5 h4_5 => ?_)
  refine b_putF (n := 91) (cells := 6) (slots := 50) (i := 84) hI fF_10_25 (by omega) ((h2_5 84 (by omega)).trans ((hD_5 84 (by omega)).trans ha)) ((h4_5 84 (by omega)).trans h0_5) rfl rfl (Nat.le_of_ble_eq_true rfl) dX10_init_48 (fun ce5c g1_5 g2_5 => ?_)
  have h0_6 : ce5c 84 = .inr (10, [.int 0, .int 0, .ref (ad5 85), .ref (ad5 86), .ref (ad5 87), .ref (ad5 88), .ref (ad5 89), .ref (ad5 90), .null, .null, .null, .null, .int 0, .int 0, .null, .null, .null, .null, .null, .null, .null, .null, .null, .null, .int 0, .int 0, .null, .null, .null, .null, .null, .null, .int 0, .int 0, .int 0, .int 0, .int 0, .int 0, .int 0, .int 0, .null]) := by
    rw [g1_5, ← h2_5 85 (by omega), ← h2_5 86 (by omega), ← h2_5 87 (by omega), ← h2_5 88 (by omega), ← h2_5 89 (by omega), ← h1_5]; rfl
  have acc_6 := accM acc_5 (ce1 := ce5) (ce2 := ce5c) h3_5 h4_5 g2_5
  have hF_6 : ∀ j, j < 84 → ce5c j = ce j := fun j hj => (g2_5 j (by omega)).trans ((h4_5 j (by omega)).trans (hF_5 j hj))
  have hD_6 : ∀ j, j < 85 → ad5 j = ad j := fun j hj => (h2_5 j (by omega)).trans (hD_5 j hj)
  refine b_aload_n 0 dX10_init_51 rfl rfl ?_
  refine b_iconst (v := 4) dX10_init_52 (by decide) ?_
  refine b_newi (n := 91) (cells := 6) (slots := 50) v_239 (N := 4) (by decide) (by decide) (by decide) ⟨Nat.le_of_ble_eq_true rfl, Nat.le_of_ble_eq_true rfl⟩ dX10_init_53 (fun a6 ad6 ce6 h1_6 h2_6 h3_6 h4_6 => ?_)
  refine b_putF (n := 92) (cells := 7) (slots := 54) (i := 84) hI fF_10_29 (by omega) ((h2_6 84 (by omega)).trans ((hD_6 84 (by omega)).trans ha)) ((h4_6 84 (by omega)).trans h0_6) rfl rfl (Nat.le_of_ble_eq_true rfl) dX10_init_55 (fun ce6c g1_6 g2_6 => ?_)
  have h0_7 : ce6c 84 = .inr (10, [.int 0, .int 0, .ref (ad6 85), .ref (ad6 86), .ref (ad6 87), .ref (ad6 88), .ref (ad6 89), .ref (ad6 90), .ref (ad6 91), .null, .null, .null, .int 0, .int 0, .null, .null, .null, .null, .null, .null, .null, .null, .null, .null, .int 0, .int 0, .null, .null, .null, .null, .null, .null, .int 0, .int 0, .int 0, .int 0, .int 0, .int 0, .int 0, .int 0, .null]) := by
    rw [g1_6, ← h2_6 85 (by omega), ← h2_6 86 (by omega), ← h2_6 87 (by omega), ← h2_6 88 (by omega), ← h2_6 89 (by omega), ← h2_6 90 (by omega), ← h1_6]; rfl
  have acc_7 := accM acc_6 (ce1 := ce6) (ce2 := ce6c) h3_6 h4_6 g2_6
  have hF_7 : ∀ j, j < 84 → ce6c j = ce j := fun j hj => (g2_6 j (by omega)).trans ((h4_6 j (by omega)).trans (hF_6 j hj))
  have hD_7 : ∀ j, j < 85 → ad6 j = ad j := fun j hj => (h2_6 j (by omega)).trans (hD_6 j hj)
  refine b_aload_n 0 dX10_init_58 rfl rfl ?_
  refine b_iconst (v := 4) dX10_init_59 (by decide) ?_
  refine b_newi (n := 92) (cells := 7) (slots := 54) v_239 (N := 4) (by decide) (by decide) (by decide) ⟨Nat.le_of_ble_eq_true rfl, Nat.le_of_ble_eq_true rfl⟩ dX10_init_60 (fun a7 ad7 ce7 h1_7 h2_7 h3_7 h4_7 => ?_)
  refine b_putF (n := 93) (cells := 8) (slots := 58) (i := 84) hI fF_10_32 (by omega) ((h2_7 84 (by omega)).trans ((hD_7 84 (by omega)).trans ha)) ((h4_7 84 (by omega)).trans h0_7) rfl rfl (Nat.le_of_ble_eq_true rfl) dX10_init_62 (fun ce7c g1_7 g2_7 => ?_)
  have h0_8 : ce7c 84 = .inr (10, [.int 0, .int 0, .ref (ad7 85), .ref (ad7 86), .ref (ad7 87), .ref (ad7 88), .ref (ad7 89), .ref (ad7 90), .ref (ad7 91), .ref (ad7 92), .null, .null, .int 0, .int 0, .null, .null, .null, .null, .null, .null, .null, .null, .null, .null, .int 0, .int 0, .null, .null, .null, .null, .null, .null, .int 0, .int 0, .int 0, .int 0, .int 0, .int 0, .int 0, .int 0, .null]) := by
    rw [g1_7, ← h2_7 85 (by omega), ← h2_7 86 (by omega), ← h2_7 87 (by omega), ← h2_7 88 (by omega), ← h2_7 89 (by omega), ← h2_7 90 (by omega), ← h2_7 91 (by omega), ← h1_7]; rfl
  have acc_8 := accM acc_7 (ce1 := ce7) (ce2 := ce7c) h3_7 h4_7 g2_7
  have hF_8 : ∀ j, j < 84 → ce7c j = ce j := fun j hj => (g2_7 j (by omega)).trans ((h4_7 j (by omega)).trans (hF_7 j hj))
  have hD_8 : ∀ j, j < 85 → ad7 j = ad j := fun j hj => (h2_7 j (by omega)).trans (hD_7 j hj)
  refine b_aload_n 0 dX10_init_65 rfl rfl ?_
  refine b_sipush (v := 800) dX10_init_66 (by decide) ?_
  refine b_newi (n := 93) (cells := 8) (slots := 58) v_239 (N := 800) (by decide) (by decide) (by decide) ⟨Nat.le_of_ble_eq_true rfl, Nat.le_of_ble_eq_true rfl⟩ dX10_init_69 (fun a8 ad8 ce8 h1_8 h2_8 h3_8 h4_8 => ?_)
  refine b_putF (n := 94) (cells := 9) (slots := 858) (i := 84) hI fF_10_35 (by omega) ((h2_8 84 (by omega)).trans ((hD_8 84 (by omega)).trans ha)) ((h4_8 84 (by omega)).trans h0_8) rfl rfl (Nat.le_of_ble_eq_true rfl) dX10_init_71 (fun ce8c g1_8 g2_8 => ?_)
  have h0_9 : ce8c 84 = .inr (10, [.int 0, .int 0, .ref (ad8 85), .ref (ad8 86), .ref (ad8 87), .ref (ad8 88), .ref (ad8 89), .ref (ad8 90), .ref (ad8 91), .ref (ad8 92), .ref (ad8 93), .null, .int 0, .int 0, .null, .null, .null, .null, .null, .null, .null, .null, .null, .null, .int 0, .int 0, .null, .null, .null, .null, .null, .null, .int 0, .int 0, .int 0, .int 0, .int 0, .int 0, .int 0, .int 0, .null]) := by
    rw [g1_8, ← h2_8 85 (by omega), ← h2_8 86 (by omega), ← h2_8 87 (by omega), ← h2_8 88 (by omega), ← h2_8 89 (by omega), ← h2_8 90 (by omega), ← h2_8 91 (by omega), ← h2_8 92 (by omega), ← h1_8]; rfl
  have acc_9 := accM acc_8 (ce1 := ce8) (ce2 := ce8c) h3_8 h4_8 g2_8
  have hF_9 : ∀ j, j < 84 → ce8c j = ce j := fun j hj => (g2_8 j (by omega)).trans ((h4_8 j (by omega)).trans (hF_8 j hj))
  have hD_9 : ∀ j, j < 85 → ad8 j = ad j := fun j hj => (h2_8 j (by omega)).trans (hD_8 j hj)
  refine b_aload_n 0 dX10_init_74 rfl rfl ?_
  refine b_bipush (v := 48) dX10_init_75 (by decide) ?_
  refine b_newi (n := 94) (cells := 9) (slots := 858) v_239 (N := 48) (by decide) (by decide) (by decide) ⟨Nat.le_of_ble_eq_true rfl, Nat.le_of_ble_eq_true rfl⟩ dX10_init_77 (fun a9 ad9 ce9 h1_9 h2_9 h3_9 h4_9 => ?_)
  refine b_putF (n := 95) (cells := 10) (slots := 906) (i := 84) hI fF_10_38 (by omega) ((h2_9 84 (by omega)).trans ((hD_9 84 (by omega)).trans ha)) ((h4_9 84 (by omega)).trans h0_9) rfl rfl (Nat.le_of_ble_eq_true rfl) dX10_init_79 (fun ce9c g1_9 g2_9 => ?_)
  have h0_10 : ce9c 84 = .inr (10, [.int 0, .int 0, .ref (ad9 85), .ref (ad9 86), .ref (ad9 87), .ref (ad9 88), .ref (ad9 89), .ref (ad9 90), .ref (ad9 91), .ref (ad9 92), .ref (ad9 93), .ref (ad9 94), .int 0, .int 0, .null, .null, .null, .null, .null, .null, .null, .null, .null, .null, .int 0, .int 0, .null, .null, .null, .null, .null, .null, .int 0, .int 0, .int 0, .int 0, .int 0, .int 0, .int 0, .int 0, .null]) := by
    rw [g1_9, ← h2_9 85 (by omega), ← h2_9 86 (by omega), ← h2_9 87 (by omega), ← h2_9 88 (by omega), ← h2_9 89 (by omega), ← h2_9 90 (by omega), ← h2_9 91 (by omega), ← h2_9 92 (by omega), ← h2_9 93 (by omega), ← h1_9]; rfl
  have acc_10 := accM acc_9 (ce1 := ce9) (ce2 := ce9c) h3_9 h4_9 g2_9
  have hF_10 : ∀ j, j < 84 → ce9c j = ce j := fun j hj => (g2_9 j (by omega)).trans ((h4_9 j (by omega)).trans (hF_9 j hj))
  have hD_10 : ∀ j, j < 85 → ad9 j = ad j := fun j hj => (h2_9 j (by omega)).trans (hD_9 j hj)
  refine b_aload_n 0 dX10_init_82 rfl rfl ?_
  refine b_bipush (v := 20) dX10_init_83 (by decide) ?_
  refine b_newi (n := 95) (cells := 10) (slots := 906) v_239 (N := 20) (by decide) (by decide) (by decide) ⟨Nat.le_of_ble_eq_true rfl, Nat.le_of_ble_eq_true rfl⟩ dX10_init_85 (fun a10 ad10 ce10 h1_10 h2_10 h3_10 h4_10 => ?_)
  refine b_putF (n := 96) (cells := 11) (slots := 926) (i := 84) hI fF_10_41 (by omega) ((h2_10 84 (by omega)).trans ((hD_10 84 (by omega)).trans ha)) ((h4_10 84 (by omega)).trans h0_10) rfl rfl (Nat.le_of_ble_eq_true rfl) dX10_init_87 (fun ce10c g1_10 g2_10 => ?_)
  have h0_11 : ce10c 84 = .inr (10, [.int 0, .int 0, .ref (ad10 85), .ref (ad10 86), .ref (ad10 87), .ref (ad10 88), .ref (ad10 89), .ref (ad10 90), .ref (ad10 91), .ref (ad10 92), .ref (ad10 93), .ref (ad10 94), .int 0, .int 0, .ref (ad10 95), .null, .null, .null, .null, .null, .null, .null, .null, .null, .int 0, .int 0, .null, .null, .null, .null, .null, .null, .int 0, .int 0, .int 0, .int 0, .int 0, .int 0, .int 0, .int 0, .null]) := by
    rw [g1_10, ← h2_10 85 (by omega), ← h2_10 86 (by omega), ← h2_10 87 (by omega), ← h2_10 88 (by omega), ← h2_10 89 (by omega), ← h2_10 90 (by omega), ← h2_10 91 (by omega), ← h2_10 92 (by omega), ← h2_10 93 (by omega), ← h2_10 94 (by omega), ← h1_10]; rfl
  have acc_11 := accM acc_10 (ce1 := ce10) (ce2 := ce10c) h3_10 h4_10 g2_10
  have hF_11 : ∀ j, j < 84 → ce10c j = ce j := fun j hj => (g2_10 j (by omega)).trans ((h4_10 j (by omega)).trans (hF_10 j hj))
  have hD_11 : ∀ j, j < 85 → ad10 j = ad j := fun j hj => (h2_10 j (by omega)).trans (hD_10 j hj)
  refine b_aload_n 0 dX10_init_90 rfl rfl ?_
  refine b_bipush (v := 20) dX10_init_91 (by decide) ?_
  refine b_newi (n := 96) (cells := 11) (slots := 926) v_239 (N := 20) (by decide) (by decide) (by decide) ⟨Nat.le_of_ble_eq_true rfl, Nat.le_of_ble_eq_true rfl⟩ dX10_init_93 (fun a11 ad11 ce11 h1_11 h2_11 h3_11 h4_11 => ?_)
  refine b_putF (n := 97) (cells := 12) (slots := 946) (i := 84) hI fF_10_44 (by omega) ((h2_11 84 (by omega)).trans ((hD_11 84 (by omega)).trans ha)) ((h4_11 84 (by omega)).trans h0_11) rfl rfl (Nat.le_of_ble_eq_true rfl) dX10_init_95 (fun ce11c g1_11 g2_11 => ?_)
  have h0_12 : ce11c 84 = .inr (10, [.int 0, .int 0, .ref (ad11 85), .ref (ad11 86), .ref (ad11 87), .ref (ad11 88), .ref (ad11 89), .ref (ad11 90), .ref (ad11 91), .ref (ad11 92), .ref (ad11 93), .ref (ad11 94), .int 0, .int 0, .ref (ad11 95), .ref (ad11 96), .null, .null, .null, .null, .null, .null, .null, .null, .int 0, .int 0, .null, .null, .null, .null, .null, .null, .int 0, .int 0, .int 0, .int 0, .int 0, .int 0, .int 0, .int 0, .null]) := by
    rw [g1_11, ← h2_11 85 (by omega), ← h2_11 86 (by omega), ← h2_11 87 (by omega), ← h2_11 88 (by omega), ← h2_11 89 (by omega), ← h2_11 90 (by omega), ← h2_11 91 (by omega), ← h2_11 92 (by omega), ← h2_11 93 (by omega), ← h2_11 94 (by omega), ← h2_11 95 (by omega), ← h1_11]; rfl
  have acc_12 := accM acc_11 (ce1 := ce11) (ce2 := ce11c) h3_11 h4_11 g2_11
  have hF_12 : ∀ j, j < 84 → ce11c j = ce j := fun j hj => (g2_11 j (by omega)).trans ((h4_11 j (by omega)).trans (hF_11 j hj))
  have hD_12 : ∀ j, j < 85 → ad11 j = ad j := fun j hj => (h2_11 j (by omega)).trans (hD_11 j hj)
  refine b_aload_n 0 dX10_init_98 rfl rfl ?_
  refine b_bipush (v := 20) dX10_init_99 (by decide) ?_
  refine b_newi (n := 97) (cells := 12) (slots := 946) v_239 (N := 20) (by decide) (by decide) (by decide) ⟨Nat.le_of_ble_eq_true rfl, Nat.le_of_ble_eq_true rfl⟩ dX10_init_101 (fun a12 ad12 ce12 h1_12 h2_12 h3_12 h4_12 => ?_)
  refine b_putF (n := 98) (cells := 13) (slots := 966) (i := 84) hI fF_10_47 (by omega) ((h2_12 84 (by omega)).trans ((hD_12 84 (by omega)).trans ha)) ((h4_12 84 (by omega)).trans h0_12) rfl rfl (Nat.le_of_ble_eq_true rfl) dX10_init_103 (fun ce12c g1_12 g2_12 => ?_)
  have h0_13 : ce12c 84 = .inr (10, [.int 0, .int 0, .ref (ad12 85), .ref (ad12 86), .ref (ad12 87), .ref (ad12 88), .ref (ad12 89), .ref (ad12 90), .ref (ad12 91), .ref (ad12 92), .ref (ad12 93), .ref (ad12 94), .int 0, .int 0, .ref (ad12 95), .ref (ad12 96), .ref (ad12 97), .null, .null, .null, .null, .null, .null, .null, .int 0, .int 0, .null, .null, .null, .null, .null, .null, .int 0, .int 0, .int 0, .int 0, .int 0, .int 0, .int 0, .int 0, .null]) := by
    rw [g1_12, ← h2_12 85 (by omega), ← h2_12 86 (by omega), ← h2_12 87 (by omega), ← h2_12 88 (by omega), ← h2_12 89 (by omega), ← h2_12 90 (by omega), ← h2_12 91 (by omega), ← h2_12 92 (by omega), ← h2_12 93 (by omega), ← h2_12 94 (by omega), ← h2_12 95 (by omega), ← h2_12 96 (by omega), ← h1_12]; rfl
  have acc_13 := accM acc_12 (ce1 := ce12) (ce2 := ce12c) h3_12 h4_12 g2_12
  have hF_13 : ∀ j, j < 84 → ce12c j = ce j := fun j hj => (g2_12 j (by omega)).trans ((h4_12 j (by omega)).trans (hF_12 j hj))
  have hD_13 : ∀ j, j < 85 → ad12 j = ad j := fun j hj => (h2_12 j (by omega)).trans (hD_12 j hj)
  refine b_aload_n 0 dX10_init_106 rfl rfl ?_
  refine b_bipush (v := 20) dX10_init_107 (by decide) ?_
  refine b_newi (n := 98) (cells := 13) (slots := 966) v_239 (N := 20) (by decide) (by decide) (by decide) ⟨Nat.le_of_ble_eq_true rfl, Nat.le_of_ble_eq_true rfl⟩ dX10_init_109 (fun a13 ad13 ce13 h1_13 h2_13 h3_13 h4_13 => ?_)
  refine b_putF (n := 99) (cells := 14) (slots := 986) (i := 84) hI fF_10_50 (by omega) ((h2_13 84 (by omega)).trans ((hD_13 84 (by omega)).trans ha)) ((h4_13 84 (by omega)).trans h0_13) rfl rfl (Nat.le_of_ble_eq_true rfl) dX10_init_111 (fun ce13c g1_13 g2_13 => ?_)
  have h0_14 : ce13c 84 = .inr (10, [.int 0, .int 0, .ref (ad13 85), .ref (ad13 86), .ref (ad13 87), .ref (ad13 88), .ref (ad13 89), .ref (ad13 90), .ref (ad13 91), .ref (ad13 92), .ref (ad13 93), .ref (ad13 94), .int 0, .int 0, .ref (ad13 95), .ref (ad13 96), .ref (ad13 97), .ref (ad13 98), .null, .null, .null, .null, .null, .null, .int 0, .int 0, .null, .null, .null, .null, .null, .null, .int 0, .int 0, .int 0, .int 0, .int 0, .int 0, .int 0, .int 0, .null]) := by
    rw [g1_13, ← h2_13 85 (by omega), ← h2_13 86 (by omega), ← h2_13 87 (by omega), ← h2_13 88 (by omega), ← h2_13 89 (by omega), ← h2_13 90 (by omega), ← h2_13 91 (by omega), ← h2_13 92 (by omega), ← h2_13 93 (by omega), ← h2_13 94 (by omega), ← h2_13 95 (by omega), ← h2_13 96 (by omega), ← h2_13 97 (by omega), ← h1_13]; rfl
  have acc_14 := accM acc_13 (ce1 := ce13) (ce2 := ce13c) h3_13 h4_13 g2_13
  have hF_14 : ∀ j, j < 84 → ce13c j = ce j := fun j hj => (g2_13 j (by omega)).trans ((h4_13 j (by omega)).trans (hF_13 j hj))
  have hD_14 : ∀ j, j < 85 → ad13 j = ad j := fun j hj => (h2_13 j (by omega)).trans (hD_13 j hj)
  refine b_aload_n 0 dX10_init_114 rfl rfl ?_
  refine b_bipush (v := 20) dX10_init_115 (by decide) ?_
  refine b_newi (n := 99) (cells := 14) (slots := 986) v_239 (N := 20) (by decide) (by decide) (by decide) ⟨Nat.le_of_ble_eq_true rfl, Nat.le_of_ble_eq_true rfl⟩ dX10_init_117 (fun a14 ad14 ce14 h1_14 h2_14 h3_14 h4_14 => ?_)
  refine b_putF (n := 100) (cells := 15) (slots := 1006) (i := 84) hI fF_10_53 (by omega) ((h2_14 84 (by omega)).trans ((hD_14 84 (by omega)).trans ha)) ((h4_14 84 (by omega)).trans h0_14) rfl rfl (Nat.le_of_ble_eq_true rfl) dX10_init_119 (fun ce14c g1_14 g2_14 => ?_)
  have h0_15 : ce14c 84 = .inr (10, [.int 0, .int 0, .ref (ad14 85), .ref (ad14 86), .ref (ad14 87), .ref (ad14 88), .ref (ad14 89), .ref (ad14 90), .ref (ad14 91), .ref (ad14 92), .ref (ad14 93), .ref (ad14 94), .int 0, .int 0, .ref (ad14 95), .ref (ad14 96), .ref (ad14 97), .ref (ad14 98), .ref (ad14 99), .null, .null, .null, .null, .null, .int 0, .int 0, .null, .null, .null, .null, .null, .null, .int 0, .int 0, .int 0, .int 0, .int 0, .int 0, .int 0, .int 0, .null]) := by
    rw [g1_14, ← h2_14 85 (by omega), ← h2_14 86 (by omega), ← h2_14 87 (by omega), ← h2_14 88 (by omega), ← h2_14 89 (by omega), ← h2_14 90 (by omega), ← h2_14 91 (by omega), ← h2_14 92 (by omega), ← h2_14 93 (by omega), ← h2_14 94 (by omega), ← h2_14 95 (by omega), ← h2_14 96 (by omega), ← h2_14 97 (by omega), ← h2_14 98 (by omega), ← h1_14]; rfl
  have acc_15 := accM acc_14 (ce1 := ce14) (ce2 := ce14c) h3_14 h4_14 g2_14
  have hF_15 : ∀ j, j < 84 → ce14c j = ce j := fun j hj => (g2_14 j (by omega)).trans ((h4_14 j (by omega)).trans (hF_14 j hj))
  have hD_15 : ∀ j, j < 85 → ad14 j = ad j := fun j hj => (h2_14 j (by omega)).trans (hD_14 j hj)
  refine b_aload_n 0 dX10_init_122 rfl rfl ?_
  refine b_bipush (v := 20) dX10_init_123 (by decide) ?_
  refine b_newi (n := 100) (cells := 15) (slots := 1006) v_239 (N := 20) (by decide) (by decide) (by decide) ⟨Nat.le_of_ble_eq_true rfl, Nat.le_of_ble_eq_true rfl⟩ dX10_init_125 (fun a15 ad15 ce15 h1_15 h2_15 h3_15 h4_15 => ?_)
  refine b_putF (n := 101) (cells := 16) (slots := 1026) (i := 84) hI fF_10_56 (by omega) ((h2_15 84 (by omega)).trans ((hD_15 84 (by omega)).trans ha)) ((h4_15 84 (by omega)).trans h0_15) rfl rfl (Nat.le_of_ble_eq_true rfl) dX10_init_127 (fun ce15c g1_15 g2_15 => ?_)
  have h0_16 : ce15c 84 = .inr (10, [.int 0, .int 0, .ref (ad15 85), .ref (ad15 86), .ref (ad15 87), .ref (ad15 88), .ref (ad15 89), .ref (ad15 90), .ref (ad15 91), .ref (ad15 92), .ref (ad15 93), .ref (ad15 94), .int 0, .int 0, .ref (ad15 95), .ref (ad15 96), .ref (ad15 97), .ref (ad15 98), .ref (ad15 99), .ref (ad15 100), .null, .null, .null, .null, .int 0, .int 0, .null, .null, .null, .null, .null, .null, .int 0, .int 0, .int 0, .int 0, .int 0, .int 0, .int 0, .int 0, .null]) := by
    rw [g1_15, ← h2_15 85 (by omega), ← h2_15 86 (by omega), ← h2_15 87 (by omega), ← h2_15 88 (by omega), ← h2_15 89 (by omega), ← h2_15 90 (by omega), ← h2_15 91 (by omega), ← h2_15 92 (by omega), ← h2_15 93 (by omega), ← h2_15 94 (by omega), ← h2_15 95 (by omega), ← h2_15 96 (by omega), ← h2_15 97 (by omega), ← h2_15 98 (by omega), ← h2_15 99 (by omega), ← h1_15]; rfl
  have acc_16 := accM acc_15 (ce1 := ce15) (ce2 := ce15c) h3_15 h4_15 g2_15
  have hF_16 : ∀ j, j < 84 → ce15c j = ce j := fun j hj => (g2_15 j (by omega)).trans ((h4_15 j (by omega)).trans (hF_15 j hj))
  have hD_16 : ∀ j, j < 85 → ad15 j = ad j := fun j hj => (h2_15 j (by omega)).trans (hD_15 j hj)
  refine b_aload_n 0 dX10_init_130 rfl rfl ?_
  refine b_bipush (v := 20) dX10_init_131 (by decide) ?_
  refine b_newi (n := 101) (cells := 16) (slots := 1026) v_239 (N := 20) (by decide) (by decide) (by decide) ⟨Nat.le_of_ble_eq_true rfl, Nat.le_of_ble_eq_true rfl⟩ dX10_init_133 (fun a16 ad16 ce16 h1_16 h2_16 h3_16 h4_16 => ?_)
  refine b_putF (n := 102) (cells := 17) (slots := 1046) (i := 84) hI fF_10_59 (by omega) ((h2_16 84 (by omega)).trans ((hD_16 84 (by omega)).trans ha)) ((h4_16 84 (by omega)).trans h0_16) rfl rfl (Nat.le_of_ble_eq_true rfl) dX10_init_135 (fun ce16c g1_16 g2_16 => ?_)
  have h0_17 : ce16c 84 = .inr (10, [.int 0, .int 0, .ref (ad16 85), .ref (ad16 86), .ref (ad16 87), .ref (ad16 88), .ref (ad16 89), .ref (ad16 90), .ref (ad16 91), .ref (ad16 92), .ref (ad16 93), .ref (ad16 94), .int 0, .int 0, .ref (ad16 95), .ref (ad16 96), .ref (ad16 97), .ref (ad16 98), .ref (ad16 99), .ref (ad16 100), .ref (ad16 101), .null, .null, .null, .int 0, .int 0, .null, .null, .null, .null, .null, .null, .int 0, .int 0, .int 0, .int 0, .int 0, .int 0, .int 0, .int 0, .null]) := by
    rw [g1_16, ← h2_16 85 (by omega), ← h2_16 86 (by omega), ← h2_16 87 (by omega), ← h2_16 88 (by omega), ← h2_16 89 (by omega), ← h2_16 90 (by omega), ← h2_16 91 (by omega), ← h2_16 92 (by omega), ← h2_16 93 (by omega), ← h2_16 94 (by omega), ← h2_16 95 (by omega), ← h2_16 96 (by omega), ← h2_16 97 (by omega), ← h2_16 98 (by omega), ← h2_16 99 (by omega), ← h2_16 100 (by omega), ← h1_16]; rfl
  have acc_17 := accM acc_16 (ce1 := ce16) (ce2 := ce16c) h3_16 h4_16 g2_16
  have hF_17 : ∀ j, j < 84 → ce16c j = ce j := fun j hj => (g2_16 j (by omega)).trans ((h4_16 j (by omega)).trans (hF_16 j hj))
  have hD_17 : ∀ j, j < 85 → ad16 j = ad j := fun j hj => (h2_16 j (by omega)).trans (hD_16 j hj)
  refine b_aload_n 0 dX10_init_138 rfl rfl ?_
  refine b_bipush (v := 20) dX10_init_139 (by decide) ?_
  refine b_newi (n := 102) (cells := 17) (slots := 1046) v_239 (N := 20) (by decide) (by decide) (by decide) ⟨Nat.le_of_ble_eq_true rfl, Nat.le_of_ble_eq_true rfl⟩ dX10_init_141 (fun a17 ad17 ce17 h1_17 h2_17 h3_17 h4_17 => ?_)
  refine b_putF (n := 103) (cells := 18) (slots := 1066) (i := 84) hI fF_10_62 (by omega) ((h2_17 84 (by omega)).trans ((hD_17 84 (by omega)).trans ha)) ((h4_17 84 (by omega)).trans h0_17) rfl rfl (Nat.le_of_ble_eq_true rfl) dX10_init_143 (fun ce17c g1_17 g2_17 => ?_)
  have h0_18 : ce17c 84 = .inr (10, [.int 0, .int 0, .ref (ad17 85), .ref (ad17 86), .ref (ad17 87), .ref (ad17 88), .ref (ad17 89), .ref (ad17 90), .ref (ad17 91), .ref (ad17 92), .ref (ad17 93), .ref (ad17 94), .int 0, .int 0, .ref (ad17 95), .ref (ad17 96), .ref (ad17 97), .ref (ad17 98), .ref (ad17 99), .ref (ad17 100), .ref (ad17 101), .ref (ad17 102), .null, .null, .int 0, .int 0, .null, .null, .null, .null, .null, .null, .int 0, .int 0, .int 0, .int 0, .int 0, .int 0, .int 0, .int 0, .null]) := by
    rw [g1_17, ← h2_17 85 (by omega), ← h2_17 86 (by omega), ← h2_17 87 (by omega), ← h2_17 88 (by omega), ← h2_17 89 (by omega), ← h2_17 90 (by omega), ← h2_17 91 (by omega), ← h2_17 92 (by omega), ← h2_17 93 (by omega), ← h2_17 94 (by omega), ← h2_17 95 (by omega), ← h2_17 96 (by omega), ← h2_17 97 (by omega), ← h2_17 98 (by omega), ← h2_17 99 (by omega), ← h2_17 100 (by omega), ← h2_17 101 (by omega), ← h1_17]; rfl
  have acc_18 := accM acc_17 (ce1 := ce17) (ce2 := ce17c) h3_17 h4_17 g2_17
  have hF_18 : ∀ j, j < 84 → ce17c j = ce j := fun j hj => (g2_17 j (by omega)).trans ((h4_17 j (by omega)).trans (hF_17 j hj))
  have hD_18 : ∀ j, j < 85 → ad17 j = ad j := fun j hj => (h2_17 j (by omega)).trans (hD_17 j hj)
  refine b_aload_n 0 dX10_init_146 rfl rfl ?_
  refine b_sipush (v := 240) dX10_init_147 (by decide) ?_
  refine b_newi (n := 103) (cells := 18) (slots := 1066) v_239 (N := 240) (by decide) (by decide) (by decide) ⟨Nat.le_of_ble_eq_true rfl, Nat.le_of_ble_eq_true rfl⟩ dX10_init_150 (fun a18 ad18 ce18 h1_18 h2_18 h3_18 h4_18 => ?_)
  refine b_putF (n := 104) (cells := 19) (slots := 1306) (i := 84) hI fF_10_65 (by omega) ((h2_18 84 (by omega)).trans ((hD_18 84 (by omega)).trans ha)) ((h4_18 84 (by omega)).trans h0_18) rfl rfl (Nat.le_of_ble_eq_true rfl) dX10_init_152 (fun ce18c g1_18 g2_18 => ?_)
  have h0_19 : ce18c 84 = .inr (10, [.int 0, .int 0, .ref (ad18 85), .ref (ad18 86), .ref (ad18 87), .ref (ad18 88), .ref (ad18 89), .ref (ad18 90), .ref (ad18 91), .ref (ad18 92), .ref (ad18 93), .ref (ad18 94), .int 0, .int 0, .ref (ad18 95), .ref (ad18 96), .ref (ad18 97), .ref (ad18 98), .ref (ad18 99), .ref (ad18 100), .ref (ad18 101), .ref (ad18 102), .ref (ad18 103), .null, .int 0, .int 0, .null, .null, .null, .null, .null, .null, .int 0, .int 0, .int 0, .int 0, .int 0, .int 0, .int 0, .int 0, .null]) := by
    rw [g1_18, ← h2_18 85 (by omega), ← h2_18 86 (by omega), ← h2_18 87 (by omega), ← h2_18 88 (by omega), ← h2_18 89 (by omega), ← h2_18 90 (by omega), ← h2_18 91 (by omega), ← h2_18 92 (by omega), ← h2_18 93 (by omega), ← h2_18 94 (by omega), ← h2_18 95 (by omega), ← h2_18 96 (by omega), ← h2_18 97 (by omega), ← h2_18 98 (by omega), ← h2_18 99 (by omega), ← h2_18 100 (by omega), ← h2_18 101 (by omega), ← h2_18 102 (by omega), ← h1_18]; rfl
  have acc_19 := accM acc_18 (ce1 := ce18) (ce2 := ce18c) h3_18 h4_18 g2_18
  have hF_19 : ∀ j, j < 84 → ce18c j = ce j := fun j hj => (g2_18 j (by omega)).trans ((h4_18 j (by omega)).trans (hF_18 j hj))
  have hD_19 : ∀ j, j < 85 → ad18 j = ad j := fun j hj => (h2_18 j (by omega)).trans (hD_18 j hj)
  refine b_aload_n 0 dX10_init_155 rfl rfl ?_
  refine b_sipush (v := 800) dX10_init_156 (by decide) ?_
  refine b_newi (n := 104) (cells := 19) (slots := 1306) v_239 (N := 800) (by decide) (by decide) (by decide) ⟨Nat.le_of_ble_eq_true rfl, Nat.le_of_ble_eq_true rfl⟩ dX10_init_159 (fun a19 ad19 ce19 h1_19 h2_19 h3_19 h4_19 => ?_)
  refine b_putF (n := 105) (cells := 20) (slots := 2106) (i := 84) hI fF_10_68 (by omega) ((h2_19 84 (by omega)).trans ((hD_19 84 (by omega)).trans ha)) ((h4_19 84 (by omega)).trans h0_19) rfl rfl (Nat.le_of_ble_eq_true rfl) dX10_init_161 (fun ce19c g1_19 g2_19 => ?_)
  have h0_20 : ce19c 84 = .inr (10, [.int 0, .int 0, .ref (ad19 85), .ref (ad19 86), .ref (ad19 87), .ref (ad19 88), .ref (ad19 89), .ref (ad19 90), .ref (ad19 91), .ref (ad19 92), .ref (ad19 93), .ref (ad19 94), .int 0, .int 0, .ref (ad19 95), .ref (ad19 96), .ref (ad19 97), .ref (ad19 98), .ref (ad19 99), .ref (ad19 100), .ref (ad19 101), .ref (ad19 102), .ref (ad19 103), .ref (ad19 104), .int 0, .int 0, .null, .null, .null, .null, .null, .null, .int 0, .int 0, .int 0, .int 0, .int 0, .int 0, .int 0, .int 0, .null]) := by
    rw [g1_19, ← h2_19 85 (by omega), ← h2_19 86 (by omega), ← h2_19 87 (by omega), ← h2_19 88 (by omega), ← h2_19 89 (by omega), ← h2_19 90 (by omega), ← h2_19 91 (by omega), ← h2_19 92 (by omega), ← h2_19 93 (by omega), ← h2_19 94 (by omega), ← h2_19 95 (by omega), ← h2_19 96 (by omega), ← h2_19 97 (by omega), ← h2_19 98 (by omega), ← h2_19 99 (by omega), ← h2_19 100 (by omega), ← h2_19 101 (by omega), ← h2_19 102 (by omega), ← h2_19 103 (by omega), ← h1_19]; rfl
  have acc_20 := accM acc_19 (ce1 := ce19) (ce2 := ce19c) h3_19 h4_19 g2_19
  have hF_20 : ∀ j, j < 84 → ce19c j = ce j := fun j hj => (g2_19 j (by omega)).trans ((h4_19 j (by omega)).trans (hF_19 j hj))
  have hD_20 : ∀ j, j < 85 → ad19 j = ad j := fun j hj => (h2_19 j (by omega)).trans (hD_19 j hj)
  refine b_aload_n 0 dX10_init_164 rfl rfl ?_
  refine b_sipush (v := 1407) dX10_init_165 (by decide) ?_
  refine b_newi (n := 105) (cells := 20) (slots := 2106) v_239 (N := 1407) (by decide) (by decide) (by decide) ⟨Nat.le_of_ble_eq_true rfl, Nat.le_of_ble_eq_true rfl⟩ dX10_init_168 (fun a20 ad20 ce20 h1_20 h2_20 h3_20 h4_20 => ?_)
  refine b_putF (n := 106) (cells := 21) (slots := 3513) (i := 84) hI fF_10_71 (by omega) ((h2_20 84 (by omega)).trans ((hD_20 84 (by omega)).trans ha)) ((h4_20 84 (by omega)).trans h0_20) rfl rfl (Nat.le_of_ble_eq_true rfl) dX10_init_170 (fun ce20c g1_20 g2_20 => ?_)
  have h0_21 : ce20c 84 = .inr (10, [.int 0, .int 0, .ref (ad20 85), .ref (ad20 86), .ref (ad20 87), .ref (ad20 88), .ref (ad20 89), .ref (ad20 90), .ref (ad20 91), .ref (ad20 92), .ref (ad20 93), .ref (ad20 94), .int 0, .int 0, .ref (ad20 95), .ref (ad20 96), .ref (ad20 97), .ref (ad20 98), .ref (ad20 99), .ref (ad20 100), .ref (ad20 101), .ref (ad20 102), .ref (ad20 103), .ref (ad20 104), .int 0, .int 0, .ref (ad20 105), .null, .null, .null, .null, .null, .int 0, .int 0, .int 0, .int 0, .int 0, .int 0, .int 0, .int 0, .null]) := by
    rw [g1_20, ← h2_20 85 (by omega), ← h2_20 86 (by omega), ← h2_20 87 (by omega), ← h2_20 88 (by omega), ← h2_20 89 (by omega), ← h2_20 90 (by omega), ← h2_20 91 (by omega), ← h2_20 92 (by omega), ← h2_20 93 (by omega), ← h2_20 94 (by omega), ← h2_20 95 (by omega), ← h2_20 96 (by omega), ← h2_20 97 (by omega), ← h2_20 98 (by omega), ← h2_20 99 (by omega), ← h2_20 100 (by omega), ← h2_20 101 (by omega), ← h2_20 102 (by omega), ← h2_20 103 (by omega), ← h2_20 104 (by omega), ← h1_20]; rfl
  have acc_21 := accM acc_20 (ce1 := ce20) (ce2 := ce20c) h3_20 h4_20 g2_20
  have hF_21 : ∀ j, j < 84 → ce20c j = ce j := fun j hj => (g2_20 j (by omega)).trans ((h4_20 j (by omega)).trans (hF_20 j hj))
  have hD_21 : ∀ j, j < 85 → ad20 j = ad j := fun j hj => (h2_20 j (by omega)).trans (hD_20 j hj)
  refine b_aload_n 0 dX10_init_173 rfl rfl ?_
  refine b_bipush (v := 10) dX10_init_174 (by decide) ?_
  refine b_newi (n := 106) (cells := 21) (slots := 3513) v_239 (N := 10) (by decide) (by decide) (by decide) ⟨Nat.le_of_ble_eq_true rfl, Nat.le_of_ble_eq_true rfl⟩ dX10_init_176 (fun a21 ad21 ce21 h1_21 h2_21 h3_21 h4_21 => ?_)
  refine b_putF (n := 107) (cells := 22) (slots := 3523) (i := 84) hI fF_10_74 (by omega) ((h2_21 84 (by omega)).trans ((hD_21 84 (by omega)).trans ha)) ((h4_21 84 (by omega)).trans h0_21) rfl rfl (Nat.le_of_ble_eq_true rfl) dX10_init_178 (fun ce21c g1_21 g2_21 => ?_)
  have h0_22 : ce21c 84 = .inr (10, [.int 0, .int 0, .ref (ad21 85), .ref (ad21 86), .ref (ad21 87), .ref (ad21 88), .ref (ad21 89), .ref (ad21 90), .ref (ad21 91), .ref (ad21 92), .ref (ad21 93), .ref (ad21 94), .int 0, .int 0, .ref (ad21 95), .ref (ad21 96), .ref (ad21 97), .ref (ad21 98), .ref (ad21 99), .ref (ad21 100), .ref (ad21 101), .ref (ad21 102), .ref (ad21 103), .ref (ad21 104), .int 0, .int 0, .ref (ad21 105), .ref (ad21 106), .null, .null, .null, .null, .int 0, .int 0, .int 0, .int 0, .int 0, .int 0, .int 0, .int 0, .null]) := by
    rw [g1_21, ← h2_21 85 (by omega), ← h2_21 86 (by omega), ← h2_21 87 (by omega), ← h2_21 88 (by omega), ← h2_21 89 (by omega), ← h2_21 90 (by omega), ← h2_21 91 (by omega), ← h2_21 92 (by omega), ← h2_21 93 (by omega), ← h2_21 94 (by omega), ← h2_21 95 (by omega), ← h2_21 96 (by omega), ← h2_21 97 (by omega), ← h2_21 98 (by omega), ← h2_21 99 (by omega), ← h2_21 100 (by omega), ← h2_21 101 (by omega), ← h2_21 102 (by omega), ← h2_21 103 (by omega), ← h2_21 104 (by omega), ← h2_21 105 (by omega), ← h1_21]; rfl
  have acc_22 := accM acc_21 (ce1 := ce21) (ce2 := ce21c) h3_21 h4_21 g2_21
  have hF_22 : ∀ j, j < 84 → ce21c j = ce j := fun j hj => (g2_21 j (by omega)).trans ((h4_21 j (by omega)).trans (hF_21 j hj))
  have hD_22 : ∀ j, j < 85 → ad21 j = ad j := fun j hj => (h2_21 j (by omega)).trans (hD_21 j hj)
  refine b_aload_n 0 dX10_init_181 rfl rfl ?_
  refine b_bipush (v := 10) dX10_init_182 (by decide) ?_
  refine b_newi (n := 107) (cells := 22) (slots := 3523) v_239 (N := 10) (by decide) (by decide) (by decide) ⟨Nat.le_of_ble_eq_true rfl, Nat.le_of_ble_eq_true rfl⟩ dX10_init_184 (fun a22 ad22 ce22 h1_22 h2_22 h3_22 h4_22 => ?_)
  refine b_putF (n := 108) (cells := 23) (slots := 3533) (i := 84) hI fF_10_77 (by omega) ((h2_22 84 (by omega)).trans ((hD_22 84 (by omega)).trans ha)) ((h4_22 84 (by omega)).trans h0_22) rfl rfl (Nat.le_of_ble_eq_true rfl) dX10_init_186 (fun ce22c g1_22 g2_22 => ?_)
  have h0_23 : ce22c 84 = .inr (10, [.int 0, .int 0, .ref (ad22 85), .ref (ad22 86), .ref (ad22 87), .ref (ad22 88), .ref (ad22 89), .ref (ad22 90), .ref (ad22 91), .ref (ad22 92), .ref (ad22 93), .ref (ad22 94), .int 0, .int 0, .ref (ad22 95), .ref (ad22 96), .ref (ad22 97), .ref (ad22 98), .ref (ad22 99), .ref (ad22 100), .ref (ad22 101), .ref (ad22 102), .ref (ad22 103), .ref (ad22 104), .int 0, .int 0, .ref (ad22 105), .ref (ad22 106), .ref (ad22 107), .null, .null, .null, .int 0, .int 0, .int 0, .int 0, .int 0, .int 0, .int 0, .int 0, .null]) := by
    rw [g1_22, ← h2_22 85 (by omega), ← h2_22 86 (by omega), ← h2_22 87 (by omega), ← h2_22 88 (by omega), ← h2_22 89 (by omega), ← h2_22 90 (by omega), ← h2_22 91 (by omega), ← h2_22 92 (by omega), ← h2_22 93 (by omega), ← h2_22 94 (by omega), ← h2_22 95 (by omega), ← h2_22 96 (by omega), ← h2_22 97 (by omega), ← h2_22 98 (by omega), ← h2_22 99 (by omega), ← h2_22 100 (by omega), ← h2_22 101 (by omega), ← h2_22 102 (by omega), ← h2_22 103 (by omega), ← h2_22 104 (by omega), ← h2_22 105 (by omega), ← h2_22 106 (by omega), ← h1_22]; rfl
  have acc_23 := accM acc_22 (ce1 := ce22) (ce2 := ce22c) h3_22 h4_22 g2_22
  have hF_23 : ∀ j, j < 84 → ce22c j = ce j := fun j hj => (g2_22 j (by omega)).trans ((h4_22 j (by omega)).trans (hF_22 j hj))
  have hD_23 : ∀ j, j < 85 → ad22 j = ad j := fun j hj => (h2_22 j (by omega)).trans (hD_22 j hj)
  refine b_aload_n 0 dX10_init_189 rfl rfl ?_
  refine b_bipush (v := 10) dX10_init_190 (by decide) ?_
  refine b_newi (n := 108) (cells := 23) (slots := 3533) v_239 (N := 10) (by decide) (by decide) (by decide) ⟨Nat.le_of_ble_eq_true rfl, Nat.le_of_ble_eq_true rfl⟩ dX10_init_192 (fun a23 ad23 ce23 h1_23 h2_23 h3_23 h4_23 => ?_)
  refine b_putF (n := 109) (cells := 24) (slots := 3543) (i := 84) hI fF_10_80 (by omega) ((h2_23 84 (by omega)).trans ((hD_23 84 (by omega)).trans ha)) ((h4_23 84 (by omega)).trans h0_23) rfl rfl (Nat.le_of_ble_eq_true rfl) dX10_init_194 (fun ce23c g1_23 g2_23 => ?_)
  have h0_24 : ce23c 84 = .inr (10, [.int 0, .int 0, .ref (ad23 85), .ref (ad23 86), .ref (ad23 87), .ref (ad23 88), .ref (ad23 89), .ref (ad23 90), .ref (ad23 91), .ref (ad23 92), .ref (ad23 93), .ref (ad23 94), .int 0, .int 0, .ref (ad23 95), .ref (ad23 96), .ref (ad23 97), .ref (ad23 98), .ref (ad23 99), .ref (ad23 100), .ref (ad23 101), .ref (ad23 102), .ref (ad23 103), .ref (ad23 104), .int 0, .int 0, .ref (ad23 105), .ref (ad23 106), .ref (ad23 107), .ref (ad23 108), .null, .null, .int 0, .int 0, .int 0, .int 0, .int 0, .int 0, .int 0, .int 0, .null]) := by
    rw [g1_23, ← h2_23 85 (by omega), ← h2_23 86 (by omega), ← h2_23 87 (by omega), ← h2_23 88 (by omega), ← h2_23 89 (by omega), ← h2_23 90 (by omega), ← h2_23 91 (by omega), ← h2_23 92 (by omega), ← h2_23 93 (by omega), ← h2_23 94 (by omega), ← h2_23 95 (by omega), ← h2_23 96 (by omega), ← h2_23 97 (by omega), ← h2_23 98 (by omega), ← h2_23 99 (by omega), ← h2_23 100 (by omega), ← h2_23 101 (by omega), ← h2_23 102 (by omega), ← h2_23 103 (by omega), ← h2_23 104 (by omega), ← h2_23 105 (by omega), ← h2_23 106 (by omega), ← h2_23 107 (by omega), ← h1_23]; rfl
  have acc_24 := accM acc_23 (ce1 := ce23) (ce2 := ce23c) h3_23 h4_23 g2_23
  have hF_24 : ∀ j, j < 84 → ce23c j = ce j := fun j hj => (g2_23 j (by omega)).trans ((h4_23 j (by omega)).trans (hF_23 j hj))
  have hD_24 : ∀ j, j < 85 → ad23 j = ad j := fun j hj => (h2_23 j (by omega)).trans (hD_23 j hj)
  refine b_aload_n 0 dX10_init_197 rfl rfl ?_
  refine b_bipush (v := 10) dX10_init_198 (by decide) ?_
  refine b_newi (n := 109) (cells := 24) (slots := 3543) v_239 (N := 10) (by decide) (by decide) (by decide) ⟨Nat.le_of_ble_eq_true rfl, Nat.le_of_ble_eq_true rfl⟩ dX10_init_200 (fun a24 ad24 ce24 h1_24 h2_24 h3_24 h4_24 => ?_)
  refine b_putF (n := 110) (cells := 25) (slots := 3553) (i := 84) hI fF_10_83 (by omega) ((h2_24 84 (by omega)).trans ((hD_24 84 (by omega)).trans ha)) ((h4_24 84 (by omega)).trans h0_24) rfl rfl (Nat.le_of_ble_eq_true rfl) dX10_init_202 (fun ce24c g1_24 g2_24 => ?_)
  have h0_25 : ce24c 84 = .inr (10, [.int 0, .int 0, .ref (ad24 85), .ref (ad24 86), .ref (ad24 87), .ref (ad24 88), .ref (ad24 89), .ref (ad24 90), .ref (ad24 91), .ref (ad24 92), .ref (ad24 93), .ref (ad24 94), .int 0, .int 0, .ref (ad24 95), .ref (ad24 96), .ref (ad24 97), .ref (ad24 98), .ref (ad24 99), .ref (ad24 100), .ref (ad24 101), .ref (ad24 102), .ref (ad24 103), .ref (ad24 104), .int 0, .int 0, .ref (ad24 105), .ref (ad24 106), .ref (ad24 107), .ref (ad24 108), .ref (ad24 109), .null, .int 0, .int 0, .int 0, .int 0, .int 0, .int 0, .int 0, .int 0, .null]) := by
    rw [g1_24, ← h2_24 85 (by omega), ← h2_24 86 (by omega), ← h2_24 87 (by omega), ← h2_24 88 (by omega), ← h2_24 89 (by omega), ← h2_24 90 (by omega), ← h2_24 91 (by omega), ← h2_24 92 (by omega), ← h2_24 93 (by omega), ← h2_24 94 (by omega), ← h2_24 95 (by omega), ← h2_24 96 (by omega), ← h2_24 97 (by omega), ← h2_24 98 (by omega), ← h2_24 99 (by omega), ← h2_24 100 (by omega), ← h2_24 101 (by omega), ← h2_24 102 (by omega), ← h2_24 103 (by omega), ← h2_24 104 (by omega), ← h2_24 105 (by omega), ← h2_24 106 (by omega), ← h2_24 107 (by omega), ← h2_24 108 (by omega), ← h1_24]; rfl
  have acc_25 := accM acc_24 (ce1 := ce24) (ce2 := ce24c) h3_24 h4_24 g2_24
  have hF_25 : ∀ j, j < 84 → ce24c j = ce j := fun j hj => (g2_24 j (by omega)).trans ((h4_24 j (by omega)).trans (hF_24 j hj))
  have hD_25 : ∀ j, j < 85 → ad24 j = ad j := fun j hj => (h2_24 j (by omega)).trans (hD_24 j hj)
  refine b_aload_n 0 dX10_init_205 rfl rfl ?_
  refine b_sipush (v := 200) dX10_init_206 (by decide) ?_
  refine b_newi (n := 110) (cells := 25) (slots := 3553) v_239 (N := 200) (by decide) (by decide) (by decide) ⟨Nat.le_of_ble_eq_true rfl, Nat.le_of_ble_eq_true rfl⟩ dX10_init_209 (fun a25 ad25 ce25 h1_25 h2_25 h3_25 h4_25 => ?_)
  refine b_putF (n := 111) (cells := 26) (slots := 3753) (i := 84) hI fF_10_86 (by omega) ((h2_25 84 (by omega)).trans ((hD_25 84 (by omega)).trans ha)) ((h4_25 84 (by omega)).trans h0_25) rfl rfl (Nat.le_of_ble_eq_true rfl) dX10_init_211 (fun ce25c g1_25 g2_25 => ?_)
  have h0_26 : ce25c 84 = .inr (10, [.int 0, .int 0, .ref (ad25 85), .ref (ad25 86), .ref (ad25 87), .ref (ad25 88), .ref (ad25 89), .ref (ad25 90), .ref (ad25 91), .ref (ad25 92), .ref (ad25 93), .ref (ad25 94), .int 0, .int 0, .ref (ad25 95), .ref (ad25 96), .ref (ad25 97), .ref (ad25 98), .ref (ad25 99), .ref (ad25 100), .ref (ad25 101), .ref (ad25 102), .ref (ad25 103), .ref (ad25 104), .int 0, .int 0, .ref (ad25 105), .ref (ad25 106), .ref (ad25 107), .ref (ad25 108), .ref (ad25 109), .ref (ad25 110), .int 0, .int 0, .int 0, .int 0, .int 0, .int 0, .int 0, .int 0, .null]) := by
    rw [g1_25, ← h2_25 85 (by omega), ← h2_25 86 (by omega), ← h2_25 87 (by omega), ← h2_25 88 (by omega), ← h2_25 89 (by omega), ← h2_25 90 (by omega), ← h2_25 91 (by omega), ← h2_25 92 (by omega), ← h2_25 93 (by omega), ← h2_25 94 (by omega), ← h2_25 95 (by omega), ← h2_25 96 (by omega), ← h2_25 97 (by omega), ← h2_25 98 (by omega), ← h2_25 99 (by omega), ← h2_25 100 (by omega), ← h2_25 101 (by omega), ← h2_25 102 (by omega), ← h2_25 103 (by omega), ← h2_25 104 (by omega), ← h2_25 105 (by omega), ← h2_25 106 (by omega), ← h2_25 107 (by omega), ← h2_25 108 (by omega), ← h2_25 109 (by omega), ← h1_25]; rfl
  have acc_26 := accM acc_25 (ce1 := ce25) (ce2 := ce25c) h3_25 h4_25 g2_25
  have hF_26 : ∀ j, j < 84 → ce25c j = ce j := fun j hj => (g2_25 j (by omega)).trans ((h4_25 j (by omega)).trans (hF_25 j hj))
  have hD_26 : ∀ j, j < 85 → ad25 j = ad j := fun j hj => (h2_25 j (by omega)).trans (hD_25 j hj)
  refine b_aload_n 0 dX10_init_214 rfl rfl ?_
  refine b_bipush (v := 10) dX10_init_215 (by decide) ?_
  refine b_newz (n := 111) (cells := 26) (slots := 3753) v_886 (N := 10) (by decide) (by decide) (by decide) ⟨Nat.le_of_ble_eq_true rfl, Nat.le_of_ble_eq_true rfl⟩ dX10_init_217 (fun a26 ad26 ce26 h1_26 h2_26 h3_26 h4_26 => ?_)
  refine b_putF (n := 112) (cells := 27) (slots := 3763) (i := 84) hI fF_10_89 (by omega) ((h2_26 84 (by omega)).trans ((hD_26 84 (by omega)).trans ha)) ((h4_26 84 (by omega)).trans h0_26) rfl rfl (Nat.le_of_ble_eq_true rfl) dX10_init_219 (fun ce26c g1_26 g2_26 => ?_)
  have h0_27 : ce26c 84 = .inr (10, [.int 0, .int 0, .ref (ad26 85), .ref (ad26 86), .ref (ad26 87), .ref (ad26 88), .ref (ad26 89), .ref (ad26 90), .ref (ad26 91), .ref (ad26 92), .ref (ad26 93), .ref (ad26 94), .int 0, .int 0, .ref (ad26 95), .ref (ad26 96), .ref (ad26 97), .ref (ad26 98), .ref (ad26 99), .ref (ad26 100), .ref (ad26 101), .ref (ad26 102), .ref (ad26 103), .ref (ad26 104), .int 0, .int 0, .ref (ad26 105), .ref (ad26 106), .ref (ad26 107), .ref (ad26 108), .ref (ad26 109), .ref (ad26 110), .int 0, .int 0, .int 0, .int 0, .int 0, .int 0, .int 0, .int 0, .ref (ad26 111)]) := by
    rw [g1_26, ← h2_26 85 (by omega), ← h2_26 86 (by omega), ← h2_26 87 (by omega), ← h2_26 88 (by omega), ← h2_26 89 (by omega), ← h2_26 90 (by omega), ← h2_26 91 (by omega), ← h2_26 92 (by omega), ← h2_26 93 (by omega), ← h2_26 94 (by omega), ← h2_26 95 (by omega), ← h2_26 96 (by omega), ← h2_26 97 (by omega), ← h2_26 98 (by omega), ← h2_26 99 (by omega), ← h2_26 100 (by omega), ← h2_26 101 (by omega), ← h2_26 102 (by omega), ← h2_26 103 (by omega), ← h2_26 104 (by omega), ← h2_26 105 (by omega), ← h2_26 106 (by omega), ← h2_26 107 (by omega), ← h2_26 108 (by omega), ← h2_26 109 (by omega), ← h2_26 110 (by omega), ← h1_26]; rfl
  have acc_27 := accM acc_26 (ce1 := ce26) (ce2 := ce26c) h3_26 h4_26 g2_26
  have hF_27 : ∀ j, j < 84 → ce26c j = ce j := fun j hj => (g2_26 j (by omega)).trans ((h4_26 j (by omega)).trans (hF_26 j hj))
  have hD_27 : ∀ j, j < 85 → ad26 j = ad j := fun j hj => (h2_26 j (by omega)).trans (hD_26 j hj)
  refine b_aload_n 0 dX10_init_222 rfl rfl ?_
  refine b_iconst (v := 1) dX10_init_223 (by decide) ?_
  refine b_put (n := 112) (i := 84) fP_10_92 (by omega) ((hD_27 84 (by omega)).trans ha) h0_27 rfl rfl (Nat.le_of_ble_eq_true rfl) dX10_init_224 (fun ceP r1 r2 => ?_)
  refine b_aload_n 0 dX10_init_227 rfl rfl ?_
  refine b_get (i := 84) fD_10_47 (by omega) ((hD_27 84 (by omega)).trans ha) r1 rfl dX10_init_228 ?_
  refine b_iconst (v := 0) dX10_init_231 (by decide) ?_
  refine b_sipush (v := 200) dX10_init_232 (by decide) ?_
  refine b_iast (i := 97) (N := 20) (by omega) rfl ((r2 97 (by omega)).trans (acc_27 12 (by omega))) (show vp_in (nI 0) 20 from vp_in_nI (by omega) (by omega)) dX10_init_235 (fun ceQ s1 s2 => ?_)
  refine b_vret hI ⟨rfl, hD_27, fun j hj => ?_, ?_, fun j hj => ?_⟩ (Nat.le_of_ble_eq_true rfl) (Nat.le_of_ble_eq_true rfl) dX10_init_236
  · rw [s2 j (by omega), r2 j (by omega)]; exact hF_27 j hj
  · rw [s2 84 (by omega)]; exact r1
  · by_cases e : j = 12
    · subst e; rw [if_pos rfl]; exact s1
    · rw [if_neg e, s2 _ (by omega), r2 _ (by omega)]; exact acc_27 j hj)
