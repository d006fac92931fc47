theorem v_74 : Cond.instanceMethod Lib.objectInit ∈ TBL := mTi 74 (by decide +kernel) rfl
theorem v_75 : Cond.code Lib.objectInit ⟨#[0xb1]⟩ 1 none ∈ TBL := mTi 75 (by decide +kernel) rfl
theorem v_239 : Cond.arrayClass .int ∈ TBL := mTi 239 (by decide +kernel) rfl
theorem v_145 : Cond.arrayClass .byte ∈ TBL := mTi 145 (by decide +kernel) rfl
theorem v_886 : Cond.arrayClass .boolean ∈ TBL := mTi 886 (by decide +kernel) rfl
abbrev qI0 : QB := (RX0, cX0_init, 1, { frames := 1, cells := 0, slots := 0, locals := 12 })
abbrev qI1 : QB := (RX1, cX1_init, 1, { frames := 1, cells := 1, slots := 800, locals := 12 })
abbrev qI2 : QB := (RX2, cX2_init, 2, { frames := 2, cells := 11, slots := 70, locals := 32 })
abbrev qI3 : QB := (RX3, cX3_init, 2, { frames := 2, cells := 41, slots := 440, locals := 32 })
abbrev qI4 : QB := (RX4, cX4_init, 2, { frames := 1, cells := 0, slots := 0, locals := 12 })
abbrev qI5 : QB := (RX5, cX5_init, 1, { frames := 1, cells := 1, slots := 12, locals := 12 })
abbrev qI6 : QB := (RX6, cX6_init, 1, { frames := 1, cells := 1, slots := 1407, locals := 12 })
abbrev qI7 : QB := (RX7, cX7_init, 1, { frames := 1, cells := 1, slots := 200, locals := 12 })
abbrev qI8 : QB := (RX8, cX8_init, 1, { frames := 1, cells := 1, slots := 48, locals := 12 })
abbrev qI9 : QB := (RX9, cX9_init, 2, { frames := 3, cells := 83, slots := 3681, locals := 53 })
abbrev qI10 : QB := (RX10, cX10_init, 1, { frames := 1, cells := 27, slots := 3763, locals := 12 })
def rwf (ad : Nat → Nat) (b s m : Nat) : Nat → Option Nat := fun k => if k < m then some (ad (b + s * k)) else none
theorem rwf_0 {ad : Nat → Nat} {b s : Nat} : (fun _ => none) = rwf ad b s 0 := by funext k; simp [rwf]
theorem rwf_congr {ad ad' : Nat → Nat} {b s m : Nat} (h : ∀ k, k < m → ad' (b + s * k) = ad (b + s * k)) : rwf ad b s m = rwf ad' b s m := by
  funext k
  unfold rwf
  by_cases c : k < m
  · rw [if_pos c, if_pos c, h k c]
  · rw [if_neg c, if_neg c]
theorem rwf_up {ad ad' : Nat → Nat} {b s m a : Nat} (h : ∀ k, k < m → ad' (b + s * k) = ad (b + s * k)) (ha : ad' (b + s * m) = a) : va_up (rwf ad b s m) m (some a) = rwf ad' b s (m + 1) := by
  funext k
  unfold rwf
  by_cases c : k = m
  · subst c; rw [up_eq, if_pos (by omega), ha]
  · rw [up_ne c]
    by_cases d : k < m
    · rw [if_pos d, if_pos (by omega), h k d]
    · rw [if_neg d, if_neg (by omega)]
theorem v_88 : Cond.methodLink RX0 3 Lib.objectInit ∈ TBL := mTi 88 (by decide +kernel) rfl
set_option maxRecDepth 100000 in
theorem cI0 (l : Launch) (D : va_G) (cy : Nat → ClassId) (N0 n : Nat) (ad : Nat → Nat) (ce : Nat → va_E) (a : Nat) : MB l D cy N0 yX0_init qI0 n ad ce [.ref a] (fun _ n' ad' ce' => n' = n ∧ ad' = ad ∧ ce' = ce) := mb_of (by decide) rfl rfl (Nat.le_of_ble_eq_true rfl) (fun E hI hcy => by
  refine b_aload_n 0 dX0_init_0 rfl rfl ?_
  refine b_obj v_88 v_74 v_75 ⟨Nat.le_of_ble_eq_true rfl, Nat.le_of_ble_eq_true rfl⟩ dX0_init_1 ?_
  exact b_vret hI ⟨rfl, rfl, rfl⟩ (Nat.le_of_ble_eq_true rfl) (Nat.le_of_ble_eq_true rfl) dX0_init_4)
theorem v_254 : Cond.methodLink RX1 3 Lib.objectInit ∈ TBL := mTi 254 (by decide +kernel) rfl
theorem v_255 : Cond.fieldLink RX1 9 RX1 "cells" "[I" ∈ TBL := mTi 255 (by decide +kernel) rfl
theorem fF_1_9 : FfX RX1 9 1 0 (.array .int) := ⟨RX1, TX1, 3, tyX1, rfl, inT_1, by decide, rfl, v_255, tyX1_ok, nmX1, rfl, rfl, rfl⟩
set_option maxRecDepth 100000 in
theorem cI1 (l : Launch) (D : va_G) (cy : Nat → ClassId) (N0 n : Nat) (ad : Nat → Nat) (ce : Nat → va_E) (i a : Nat) (hi : i < n) (ha : ad i = a) (he : ce i = .inr (1, [.null, .int 0, .int 0])) : MB l D cy N0 yX1_init qI1 n ad ce [.ref a] (fun cy n' ad' ce' => n' = n + 1 ∧ (∀ j, j < n → ad' j = ad j) ∧ (∀ j, j < n → j ≠ i → ce' j = ce j) ∧ ce' i = .inr (1, [.ref (ad' n), .int 0, .int 0]) ∧ ce' n = .inl (cy 12, 800, .inl (fun _ => 0))) := mb_of (by decide) rfl rfl (Nat.le_of_ble_eq_true rfl) (fun E hI hcy => by
  refine b_aload_n 0 dX1_init_0 rfl rfl ?_
  refine b_obj v_254 v_74 v_75 ⟨Nat.le_of_ble_eq_true rfl, Nat.le_of_ble_eq_true rfl⟩ dX1_init_1 ?_
  refine b_aload_n 0 dX1_init_4 rfl rfl ?_
  refine b_sipush (v := 800) dX1_init_5 (by decide) ?_
  refine b_newi v_239 (N := 800) (by decide) (by decide) (by decide) ⟨Nat.le_of_ble_eq_true rfl, Nat.le_of_ble_eq_true rfl⟩ dX1_init_8 (fun a1 ad1 ce1 h1 h2 h3 h4 => ?_)
  refine b_putF hI fF_1_9 (show i < n + 1 by omega) ((h2 i (by omega)).trans ha) ((h4 i (by omega)).trans he) rfl rfl (Nat.le_of_ble_eq_true rfl) dX1_init_10 (fun ce2 g1 g2 => ?_)
  exact b_vret hI ⟨rfl, fun j hj => h2 j (by omega), fun j hj hji => (g2 j hji).trans (h4 j (by omega)), by rw [g1, h1]; rfl, (g2 n (by omega)).trans h3⟩ (Nat.le_of_ble_eq_true rfl) (Nat.le_of_ble_eq_true rfl) dX1_init_13)
theorem v_196 : Cond.methodLink RX5 3 Lib.objectInit ∈ TBL := mTi 196 (by decide +kernel) rfl
theorem v_197 : Cond.fieldLink RX5 9 RX5 "paid" "[I" ∈ TBL := mTi 197 (by decide +kernel) rfl
theorem fF_5_9 : FfX RX5 9 5 0 (.array .int) := ⟨RX5, TX5, 9, tyX5, rfl, inT_5, by decide, rfl, v_197, tyX5_ok, nmX5, rfl, rfl, rfl⟩
set_option maxRecDepth 100000 in
theorem cI5 (l : Launch) (D : va_G) (cy : Nat → ClassId) (N0 n : Nat) (ad : Nat → Nat) (ce : Nat → va_E) (i a : Nat) (hi : i < n) (ha : ad i = a) (he : ce i = .inr (5, [.null, .int 0, .int 0, .int 0, .int 0, .int 0, .int 0, .int 0, .int 0])) : MB l D cy N0 yX5_init qI5 n ad ce [.ref a] (fun cy n' ad' ce' => n' = n + 1 ∧ (∀ j, j < n → ad' j = ad j) ∧ (∀ j, j < n → j ≠ i → ce' j = ce j) ∧ ce' i = .inr (5, [.ref (ad' n), .int 0, .int 0, .int 0, .int 0, .int 0, .int 0, .int 0, .int 0]) ∧ ce' n = .inl (cy 12, 12, .inl (fun _ => 0))) := mb_of (by decide) rfl rfl (Nat.le_of_ble_eq_true rfl) (fun E hI hcy => by
  refine b_aload_n 0 dX5_init_0 rfl rfl ?_
  refine b_obj v_196 v_74 v_75 ⟨Nat.le_of_ble_eq_true rfl, Nat.le_of_ble_eq_true rfl⟩ dX5_init_1 ?_
  refine b_aload_n 0 dX5_init_4 rfl rfl ?_
  refine b_bipush (v := 12) dX5_init_5 (by decide) ?_
  refine b_newi v_239 (N := 12) (by decide) (by decide) (by decide) ⟨Nat.le_of_ble_eq_true rfl, Nat.le_of_ble_eq_true rfl⟩ dX5_init_7 (fun a1 ad1 ce1 h1 h2 h3 h4 => ?_)
  refine b_putF hI fF_5_9 (show i < n + 1 by omega) ((h2 i (by omega)).trans ha) ((h4 i (by omega)).trans he) rfl rfl (Nat.le_of_ble_eq_true rfl) dX5_init_9 (fun ce2 g1 g2 => ?_)
  exact b_vret hI ⟨rfl, fun j hj => h2 j (by omega), fun j hj hji => (g2 j hji).trans (h4 j (by omega)), by rw [g1, h1]; rfl, (g2 n (by omega)).trans h3⟩ (Nat.le_of_ble_eq_true rfl) (Nat.le_of_ble_eq_true rfl) dX5_init_12)
theorem v_271 : Cond.methodLink RX6 3 Lib.objectInit ∈ TBL := mTi 271 (by decide +kernel) rfl
theorem v_272 : Cond.fieldLink RX6 9 RX6 "cells" "[I" ∈ TBL := mTi 272 (by decide +kernel) rfl
theorem fF_6_9 : FfX RX6 9 6 0 (.array .int) := ⟨RX6, TX6, 1, tyX6, rfl, inT_6, by decide, rfl, v_272, tyX6_ok, nmX6, rfl, rfl, rfl⟩
set_option maxRecDepth 100000 in
theorem cI6 (l : Launch) (D : va_G) (cy : Nat → ClassId) (N0 n : Nat) (ad : Nat → Nat) (ce : Nat → va_E) (i a : Nat) (hi : i < n) (ha : ad i = a) (he : ce i = .inr (6, [.null])) : MB l D cy N0 yX6_init qI6 n ad ce [.ref a] (fun cy n' ad' ce' => n' = n + 1 ∧ (∀ j, j < n → ad' j = ad j) ∧ (∀ j, j < n → j ≠ i → ce' j = ce j) ∧ ce' i = .inr (6, [.ref (ad' n)]) ∧ ce' n = .inl (cy 12, 1407, .inl (fun _ => 0))) := mb_of (by decide) rfl rfl (Nat.le_of_ble_eq_true rfl) (fun E hI hcy => by
  refine b_aload_n 0 dX6_init_0 rfl rfl ?_
  refine b_obj v_271 v_74 v_75 ⟨Nat.le_of_ble_eq_true rfl, Nat.le_of_ble_eq_true rfl⟩ dX6_init_1 ?_
  refine b_aload_n 0 dX6_init_4 rfl rfl ?_
  refine b_sipush (v := 1407) dX6_init_5 (by decide) ?_
  refine b_newi v_239 (N := 1407) (by decide) (by decide) (by decide) ⟨Nat.le_of_ble_eq_true rfl, Nat.le_of_ble_eq_true rfl⟩ dX6_init_8 (fun a1 ad1 ce1 h1 h2 h3 h4 => ?_)
  refine b_putF hI fF_6_9 (show i < n + 1 by omega) ((h2 i (by omega)).trans ha) ((h4 i (by omega)).trans he) rfl rfl (Nat.le_of_ble_eq_true rfl) dX6_init_10 (fun ce2 g1 g2 => ?_)
  exact b_vret hI ⟨rfl, fun j hj => h2 j (by omega), fun j hj hji => (g2 j hji).trans (h4 j (by omega)), by rw [g1, h1]; rfl, (g2 n (by omega)).trans h3⟩ (Nat.le_of_ble_eq_true rfl) (Nat.le_of_ble_eq_true rfl) dX6_init_13)
theorem v_280 : Cond.methodLink RX7 3 Lib.objectInit ∈ TBL := mTi 280 (by decide +kernel) rfl
theorem v_281 : Cond.fieldLink RX7 9 RX7 "places" "[I" ∈ TBL := mTi 281 (by decide +kernel) rfl
theorem fF_7_9 : FfX RX7 9 7 0 (.array .int) := ⟨RX7, TX7, 4, tyX7, rfl, inT_7, by decide, rfl, v_281, tyX7_ok, nmX7, rfl, rfl, rfl⟩
theorem v_283 : Cond.fieldLink RX7 15 RX7 "isMissing" "Z" ∈ TBL := mTi 283 (by decide +kernel) rfl
theorem fP_7_15 : FpX RX7 15 7 1 .boolean := ⟨RX7, TX7, 4, tyX7, rfl, inT_7, by decide, rfl, Or.inl v_283, tyX7_ok, nmX7, rfl, rfl⟩
set_option maxRecDepth 100000 in
theorem cI7 (l : Launch) (D : va_G) (cy : Nat → ClassId) (N0 n : Nat) (ad : Nat → Nat) (ce : Nat → va_E) (i a : Nat) (hi : i < n) (ha : ad i = a) (he : ce i = .inr (7, [.null, .int 0, .int 0, .int 0])) : MB l D cy N0 yX7_init qI7 n ad ce [.ref a] (fun cy n' ad' ce' => n' = n + 1 ∧ (∀ j, j < n → ad' j = ad j) ∧ (∀ j, j < n → j ≠ i → ce' j = ce j) ∧ ce' i = .inr (7, [.ref (ad' n), .int 1, .int 0, .int 0]) ∧ ce' n = .inl (cy 12, 200, .inl (fun _ => 0))) := mb_of (by decide) rfl rfl (Nat.le_of_ble_eq_true rfl) (fun E hI hcy => by
  refine b_aload_n 0 dX7_init_0 rfl rfl ?_
  refine b_obj v_280 v_74 v_75 ⟨Nat.le_of_ble_eq_true rfl, Nat.le_of_ble_eq_true rfl⟩ dX7_init_1 ?_
  refine b_aload_n 0 dX7_init_4 rfl rfl ?_
  refine b_sipush (v := 200) dX7_init_5 (by decide) ?_
  refine b_newi v_239 (N := 200) (by decide) (by decide) (by decide) ⟨Nat.le_of_ble_eq_true rfl, Nat.le_of_ble_eq_true rfl⟩ dX7_init_8 (fun a1 ad1 ce1 h1 h2 h3 h4 => ?_)
  refine b_putF hI fF_7_9 (show i < n + 1 by omega) ((h2 i (by omega)).trans ha) ((h4 i (by omega)).trans he) rfl rfl (Nat.le_of_ble_eq_true rfl) dX7_init_10 (fun ce2 g1 g2 => ?_)
  refine b_aload_n 0 dX7_init_13 rfl rfl ?_
  refine b_iconst (v := 1) dX7_init_14 (by decide) ?_
  refine b_put fP_7_15 (show i < n + 1 by omega) ((h2 i (by omega)).trans ha) g1 rfl rfl (Nat.le_of_ble_eq_true rfl) dX7_init_15 (fun ce3 k1 k2 => ?_)
  exact b_vret hI ⟨rfl, fun j hj => h2 j (by omega), fun j hj hji => ((k2 j hji).trans (g2 j hji)).trans (h4 j (by omega)), by rw [k1, h1]; rfl, ((k2 n (by omega)).trans (g2 n (by omega))).trans h3⟩ (Nat.le_of_ble_eq_true rfl) (Nat.le_of_ble_eq_true rfl) dX7_init_18)
theorem v_134 : Cond.methodLink RX8 3 Lib.objectInit ∈ TBL := mTi 134 (by decide +kernel) rfl
theorem v_135 : Cond.fieldLink RX8 9 RX8 "bytes" "[B" ∈ TBL := mTi 135 (by decide +kernel) rfl
theorem fF_8_9 : FfX RX8 9 8 0 (.array .byte) := ⟨RX8, TX8, 2, tyX8, rfl, inT_8, by decide, rfl, v_135, tyX8_ok, nmX8, rfl, rfl, rfl⟩
set_option maxRecDepth 100000 in
theorem cI8 (l : Launch) (D : va_G) (cy : Nat → ClassId) (N0 n : Nat) (ad : Nat → Nat) (ce : Nat → va_E) (i a : Nat) (hi : i < n) (ha : ad i = a) (he : ce i = .inr (8, [.null, .int 0])) : MB l D cy N0 yX8_init qI8 n ad ce [.ref a] (fun cy n' ad' ce' => n' = n + 1 ∧ (∀ j, j < n → ad' j = ad j) ∧ (∀ j, j < n → j ≠ i → ce' j = ce j) ∧ ce' i = .inr (8, [.ref (ad' n), .int 0]) ∧ ce' n = .inl (cy 11, 48, .inl (fun _ => 0))) := mb_of (by decide) rfl rfl (Nat.le_of_ble_eq_true rfl) (fun E hI hcy => by
  refine b_aload_n 0 dX8_init_0 rfl rfl ?_
  refine b_obj v_134 v_74 v_75 ⟨Nat.le_of_ble_eq_true rfl, Nat.le_of_ble_eq_true rfl⟩ dX8_init_1 ?_
  refine b_aload_n 0 dX8_init_4 rfl rfl ?_
  refine b_bipush (v := 48) dX8_init_5 (by decide) ?_
  refine b_newb v_145 (N := 48) (by decide) (by decide) (by decide) ⟨Nat.le_of_ble_eq_true rfl, Nat.le_of_ble_eq_true rfl⟩ dX8_init_7 (fun a1 ad1 ce1 h1 h2 h3 h4 => ?_)
  refine b_putF hI fF_8_9 (show i < n + 1 by omega) ((h2 i (by omega)).trans ha) ((h4 i (by omega)).trans he) rfl rfl (Nat.le_of_ble_eq_true rfl) dX8_init_9 (fun ce2 g1 g2 => ?_)
  exact b_vret hI ⟨rfl, fun j hj => h2 j (by omega), fun j hj hji => (g2 j hji).trans (h4 j (by omega)), by rw [g1, h1]; rfl, (g2 n (by omega)).trans h3⟩ (Nat.le_of_ble_eq_true rfl) (Nat.le_of_ble_eq_true rfl) dX8_init_12)
theorem v_151 : Cond.methodLink RX4 3 Lib.objectInit ∈ TBL := mTi 151 (by decide +kernel) rfl
theorem v_152 : Cond.fieldLink RX4 9 RX4 "tape" "LBridgeHouse$Tape;" ∈ TBL := mTi 152 (by decide +kernel) rfl
theorem fF_4_9 : FfX RX4 9 4 0 (.object "BridgeHouse$Tape") := ⟨RX4, TX4, 8, tyX4, rfl, inT_4, by decide, rfl, v_152, tyX4_ok, nmX4, rfl, rfl, rfl⟩
set_option maxRecDepth 100000 in
theorem cI4 (l : Launch) (D : va_G) (cy : Nat → ClassId) (N0 n : Nat) (ad : Nat → Nat) (ce : Nat → va_E) (i a b : Nat) (hi : i < n) (ha : ad i = a) (he : ce i = .inr (4, [.null, .int 0, .int 0, .int 0, .int 0, .int 0, .int 0, .int 0])) : MB l D cy N0 yX4_init qI4 n ad ce [.ref a, .ref b] (fun _ n' ad' ce' => n' = n ∧ (∀ j, j < n → ad' j = ad j) ∧ (∀ j, j < n → j ≠ i → ce' j = ce j) ∧ ce' i = .inr (4, [.ref b, .int 0, .int 0, .int 0, .int 0, .int 0, .int 0, .int 0])) := mb_of (by decide) rfl rfl (Nat.le_of_ble_eq_true rfl) (fun E hI hcy => by
  refine b_aload_n 0 dX4_init_0 rfl rfl ?_
  refine b_obj v_151 v_74 v_75 ⟨Nat.le_of_ble_eq_true rfl, Nat.le_of_ble_eq_true rfl⟩ dX4_init_1 ?_
  refine b_aload_n 0 dX4_init_4 rfl rfl ?_
  refine b_aload_n 1 dX4_init_5 rfl rfl ?_
  refine b_putF hI fF_4_9 hi ha he rfl rfl (Nat.le_of_ble_eq_true rfl) dX4_init_6 (fun ce2 g1 g2 => ?_)
  exact b_vret hI ⟨rfl, fun j hj => rfl, fun j hj hji => g2 j hji, g1⟩ (Nat.le_of_ble_eq_true rfl) (Nat.le_of_ble_eq_true rfl) dX4_init_9)
theorem v_81 : Cond.methodLink RX2 3 Lib.objectInit ∈ TBL := mTi 81 (by decide +kernel) rfl
theorem v_118 : Cond.fieldLink RX2 11 RX2 "arches" "[LBridgeHouse$Arch;" ∈ TBL := mTi 118 (by decide +kernel) rfl
theorem fF_2_11 : FfX RX2 11 2 0 (.array (.object "BridgeHouse$Arch")) := ⟨RX2, TX2, 2, tyX2, rfl, inT_2, by decide, rfl, v_118, tyX2_ok, nmX2, rfl, rfl, rfl⟩
theorem fD_2_11 : FdX RX2 11 2 0 := ⟨RX2, TX2, 2, rfl, inT_2, by decide, rfl, Or.inl v_118⟩
theorem v_82 : Cond.classLink RX2 9 RX0 ∈ TBL := mTi 82 (by decide +kernel) rfl
theorem v_84 : Cond.instantiable RX0 6 ∈ TBL := mTi 84 (by decide +kernel) rfl
theorem v_53 : Cond.initialized RX0 ∈ TBL := mTi 53 (by decide +kernel) rfl
theorem v_85 : Cond.methodLinkNest RX2 17 yX0_init "BridgeHouse" ∈ NWL := mNi 85 (by decide +kernel) rfl
theorem v_87 : Cond.code yX0_init cX0_init 1 none ∈ TBL := mTi 87 (by decide +kernel) rfl
theorem v_86 : Cond.instanceMethod yX0_init ∈ TBL := mTi 86 (by decide +kernel) rfl
theorem lI_2_17 : LkI RX2 17 yX0_init qI0 0 := ⟨Or.inr ⟨_, v_85⟩, v_53, v_87, by decide +kernel, v_86, rfl⟩
def InvB (cy : Nat → ClassId) (n i : Nat) (ad0 : Nat → Nat) (ce0 : Nat → va_E) (k : Nat) (ad : Nat → Nat) (ce : Nat → va_E) : Prop := (∀ j, j < n → ad j = ad0 j) ∧ (∀ j, j < n → j ≠ i → ce j = ce0 j) ∧ ce i = .inr (2, [.ref (ad n), .int 0]) ∧ ce n = .inl (cy 14, 10, qf (rwf ad (n + 1) 1 k)) ∧ ∀ j, j < k → ce (n + 1 + j) = .inr (0, [.int 0, .int 0, .int 0, .int 0, .int 0, .int 0])
set_option maxRecDepth 100000 in
theorem loopB {E : XB} {N0 : Nat} {Q : State → Prop} {n i a : Nat} {ad0 : Nat → Nat} {ce0 : Nat → va_E} (hi : i < n) (ha : ad0 i = a) (K : ∀ (ad : Nat → Nat) (ce : Nat → va_E), InvB E.2.2.2 n i ad0 ce0 10 ad ce → GB E qI2 N0 Q 11 70 (n + 11) ad ce 40 [(1, .int (nI 10)), (0, .ref a)] []) : ∀ (f k : Nat) (ad : Nat → Nat) (ce : Nat → va_E), 10 - k < f → k ≤ 10 → InvB E.2.2.2 n i ad0 ce0 k ad ce → GB E qI2 N0 Q (1 + k) (10 + 6 * k) (n + 1 + k) ad ce 15 [(1, .int (nI k)), (0, .ref a)] [] := by
  intro f
  induction f with
  | zero => intro k ad ce h; omega
  | succ f ih =>
    intro k ad ce hf hk hv
    have hv0 := hv
    obtain ⟨v1, v2, v3, v4, v5⟩ := hv
    refine b_iload_n 0 dX2_init_15 rfl rfl ?_
    refine b_bipush (v := 10) dX2_init_16 (by decide) ?_
    refine b_icmp_ge 40 dX2_init_18 (by decide) (fun c => ?_) (fun c => ?_)
    · have e : k = 10 := by
        have c' : nI 10 ≤ nI k := c
        rw [leN (by omega) (by omega)] at c'; omega
      subst e
      exact K ad ce hv0
    · have hlt : k < 10 := by
        apply Nat.lt_of_not_le
        intro h
        apply c
        show nI 10 ≤ nI k
        rw [leN (by omega) (by omega)]; exact h
      refine b_aload_n 1 dX2_init_21 rfl rfl ?_
      refine b_get (i := i) fD_2_11 (by omega) ((v1 i hi).trans ha) v3 rfl dX2_init_22 ?_
      refine b_iload_n 0 dX2_init_25 rfl rfl ?_
      refine b_new (ci := 0) (N := 6) (fs := [.int 0, .int 0, .int 0, .int 0, .int 0, .int 0]) tyX0 inT_0 tyX0_ok v_82 v_84 v_53 rfl (by decide) ⟨by show 1 + k + 1 ≤ 11; omega, by show 10 + 6 * k + 6 ≤ 70; omega⟩ dX2_init_26 (fun a1 ad1 ce1 h1 h2 h3 h4 => ?_)
      refine b_dup dX2_init_29 rfl ?_
      refine b_init (rest := [.ref a1, .int (nI k), .ref (ad n)]) (As := []) lI_2_17 (cI0 _ _ _ _ _ _ _ _) ⟨Nat.le_of_ble_eq_true rfl, Nat.le_of_ble_eq_true rfl⟩ ⟨by show 1 + k + 1 + 0 ≤ 11; omega, by show 10 + 6 * k + 6 + 0 ≤ 70; omega⟩ rfl rfl (Nat.le_of_ble_eq_true rfl) dX2_init_30 (fun n2 ad2 ce2 hp => ?_)
      obtain ⟨rfl, rfl, rfl⟩ := hp
      refine b_aast (k := 14) (ci := 0) (i := n) (z := n + 1 + k) (Or.inl ⟨rfl, rfl⟩) (by omega) (h2 n (by omega)) ((h4 n (by omega)).trans v4) (by omega) h1 h3 (vp_in_nI hlt (by omega)) dX2_init_33 (fun ce3 g1 g2 => ?_)
      refine b_iinc (v := nI (k + 1)) 0 dX2_init_34 rfl (nIs k) (by decide) rfl ?_
      refine b_goto 15 dX2_init_37 (by decide) ?_
      refine ih (k + 1) ad2 ce3 (by omega) (by omega) ⟨fun j hj => (h2 j (by omega)).trans (v1 j hj), fun j hj hji => ?_, ?_, ?_, fun j hj => ?_⟩
      · rw [g2 j (by omega), h4 j (by omega)]; exact v2 j hj hji
      · rw [g2 i (by omega), h4 i (by omega), v3, h2 n (by omega)]
      · rw [g1, cN (show k < 2 ^ 31 by omega), rwf_up (ad' := ad2) (fun x hx => h2 _ (by omega)) (by rw [show n + 1 + 1 * k = n + 1 + k by omega]; exact h1)]
      · by_cases e : j = k
        · subst e; rw [g2 _ (by omega)]; exact h3
        · rw [g2 _ (by omega), h4 _ (by omega)]; exact v5 j (by omega)
set_option maxRecDepth 100000 in
theorem cI2 (l : Launch) (D : va_G) (cy : Nat → ClassId) (N0 n : Nat) (ad : Nat → Nat) (ce : Nat → va_E) (i a : Nat) (hi : i < n) (ha : ad i = a) (he : ce i = .inr (2, [.null, .int 0])) : MB l D cy N0 yX2_init qI2 n ad ce [.ref a] (fun cy n' ad' ce' => n' = n + 11 ∧ InvB cy n i ad ce 10 ad' ce') := mb_of (by decide) rfl rfl (Nat.le_of_ble_eq_true rfl) (fun E hI hcy => by
  refine b_aload_n 0 dX2_init_0 rfl rfl ?_
  refine b_obj v_81 v_74 v_75 ⟨Nat.le_of_ble_eq_true rfl, Nat.le_of_ble_eq_true rfl⟩ dX2_init_1 ?_
  refine b_aload_n 0 dX2_init_4 rfl rfl ?_
  refine b_bipush (v := 10) dX2_init_5 (by decide) ?_
  refine b_newq (k := 14) (N := 10) (Or.inl rfl) v_82 (by decide) (by decide) (by decide) ⟨Nat.le_of_ble_eq_true rfl, Nat.le_of_ble_eq_true rfl⟩ dX2_init_7 (fun a1 ad1 ce1 h1 h2 h3 h4 => ?_)
  refine b_putF hI fF_2_11 (show i < n + 1 by omega) ((h2 i (by omega)).trans ha) ((h4 i (by omega)).trans he) rfl rfl (Nat.le_of_ble_eq_true rfl) dX2_init_10 (fun ce2 g1 g2 => ?_)
  refine b_iconst (v := nI 0) dX2_init_13 (by decide) ?_
  refine b_istore_n dX2_init_14 rfl (by decide) rfl ?_
  refine loopB (ad0 := ad) (ce0 := ce) hi ha (fun ad' ce' hv => ?_) 11 0 ad1 ce2 (by omega) (by omega) ⟨fun j hj => h2 j (by omega), fun j hj hji => (g2 j hji).trans (h4 j (by omega)), by rw [g1, h1]; rfl, by rw [g2 n (by omega), h3, rwf_0 (ad := ad1)], fun j hj => by omega⟩
  exact b_vret hI ⟨rfl, hv⟩ (Nat.le_of_ble_eq_true rfl) (Nat.le_of_ble_eq_true rfl) dX2_init_40)
theorem v_189 : Cond.methodLink RX3 3 Lib.objectInit ∈ TBL := mTi 189 (by decide +kernel) rfl
theorem v_240 : Cond.fieldLink RX3 11 RX3 "purses" "[LBridgeHouse$Purse;" ∈ TBL := mTi 240 (by decide +kernel) rfl
theorem fF_3_11 : FfX RX3 11 3 0 (.array (.object "BridgeHouse$Purse")) := ⟨RX3, TX3, 2, tyX3, rfl, inT_3, by decide, rfl, v_240, tyX3_ok, nmX3, rfl, rfl, rfl⟩
theorem fD_3_11 : FdX RX3 11 3 0 := ⟨RX3, TX3, 2, rfl, inT_3, by decide, rfl, Or.inl v_240⟩
theorem v_242 : Cond.fieldLink RX3 17 RX3 "size" "I" ∈ TBL := mTi 242 (by decide +kernel) rfl
theorem fP_3_17 : FpX RX3 17 3 1 .int := ⟨RX3, TX3, 2, tyX3, rfl, inT_3, by decide, rfl, Or.inl v_242, tyX3_ok, nmX3, rfl, rfl⟩
theorem v_190 : Cond.classLink RX3 9 RX5 ∈ TBL := mTi 190 (by decide +kernel) rfl
theorem v_192 : Cond.instantiable RX5 9 ∈ TBL := mTi 192 (by decide +kernel) rfl
theorem v_57 : Cond.initialized RX5 ∈ TBL := mTi 57 (by decide +kernel) rfl
theorem v_193 : Cond.methodLinkNest RX3 21 yX5_init "BridgeHouse" ∈ NWL := mNi 193 (by decide +kernel) rfl
theorem v_195 : Cond.code yX5_init cX5_init 1 none ∈ TBL := mTi 195 (by decide +kernel) rfl
theorem v_194 : Cond.instanceMethod yX5_init ∈ TBL := mTi 194 (by decide +kernel) rfl
theorem lI_3_21 : LkI RX3 21 yX5_init qI5 0 := ⟨Or.inr ⟨_, v_193⟩, v_57, v_195, by decide +kernel, v_194, rfl⟩
theorem v_199 : Cond.fieldLinkNest RX3 22 RX5 "end" "I" "BridgeHouse" ∈ NWL := mNi 199 (by decide +kernel) rfl
theorem fP_3_22 : FpX RX3 22 5 1 .int := ⟨RX5, TX5, 9, tyX5, rfl, inT_5, by decide, rfl, Or.inr ⟨_, v_199⟩, tyX5_ok, nmX5, rfl, rfl⟩
theorem v_205 : Cond.fieldLinkNest RX3 25 RX5 "till" "I" "BridgeHouse" ∈ NWL := mNi 205 (by decide +kernel) rfl
theorem fP_3_25 : FpX RX3 25 5 3 .int := ⟨RX5, TX5, 9, tyX5, rfl, inT_5, by decide, rfl, Or.inr ⟨_, v_205⟩, tyX5_ok, nmX5, rfl, rfl⟩
def InvC (cy : Nat → ClassId) (n i : Nat) (ad0 : Nat → Nat) (ce0 : Nat → va_E) (k : Nat) (ad : Nat → Nat) (ce : Nat → va_E) : Prop := (∀ j, j < n → ad j = ad0 j) ∧ (∀ j, j < n → j ≠ i → ce j = ce0 j) ∧ ce i = .inr (3, [.ref (ad n), .int 1]) ∧ ce n = .inl (cy 15, 20, qf (rwf ad (n + 1) 2 k)) ∧ ∀ j, j < k → ce (n + 1 + 2 * j) = .inr (5, [.ref (ad (n + 2 + 2 * j)), .int 0, .int 0, .int 0, .int 0, .int 0, .int 0, .int 0, .int 0]) ∧ ce (n + 2 + 2 * j) = .inl (cy 12, 12, .inl (fun _ => 0))
def PostC (cy : Nat → ClassId) (n i : Nat) (ad0 : Nat → Nat) (ce0 : Nat → va_E) (ad : Nat → Nat) (ce : Nat → va_E) : Prop := (∀ j, j < n → ad j = ad0 j) ∧ (∀ j, j < n → j ≠ i → ce j = ce0 j) ∧ ce i = .inr (3, [.ref (ad n), .int 1]) ∧ ce n = .inl (cy 15, 20, qf (rwf ad (n + 1) 2 20)) ∧ ∀ j, j < 20 → ce (n + 1 + 2 * j) = .inr (5, [.ref (ad (n + 2 + 2 * j)), .int 0, .int 0, .int (if j = 0 then 200 else 0), .int 0, .int 0, .int 0, .int 0, .int 0]) ∧ ce (n + 2 + 2 * j) = .inl (cy 12, 12, .inl (fun _ => 0))
set_option maxRecDepth 100000 in
theorem loopC {E : XB} {N0 : Nat} {Q : State → Prop} {n i a : Nat} {ad0 : Nat → Nat} {ce0 : Nat → va_E} (hi : i < n) (ha : ad0 i = a) (K : ∀ (ad : Nat → Nat) (ce : Nat → va_E), InvC E.2.2.2 n i ad0 ce0 20 ad ce → GB E qI3 N0 Q 41 440 (n + 41) ad ce 45 [(1, .int (nI 20)), (0, .ref a)] []) : ∀ (f k : Nat) (ad : Nat → Nat) (ce : Nat → va_E), 20 - k < f → k ≤ 20 → InvC E.2.2.2 n i ad0 ce0 k ad ce → GB E qI3 N0 Q (1 + 2 * k) (20 + 21 * k) (n + 1 + 2 * k) ad ce 20 [(1, .int (nI k)), (0, .ref a)] [] := by
  intro f
  induction f with
  | zero => intro k ad ce h; omega
  | succ f ih =>
    intro k ad ce hf hk hv
    have hv0 := hv
    obtain ⟨v1, v2, v3, v4, v5⟩ := hv
    refine b_iload_n 0 dX3_init_20 rfl rfl ?_
    refine b_bipush (v := 20) dX3_init_21 (by decide) ?_
    refine b_icmp_ge 45 dX3_init_23 (by decide) (fun c => ?_) (fun c => ?_)
    · have e : k = 20 := by
        have c' : nI 20 ≤ nI k := c
        rw [leN (by omega) (by omega)] at c'; omega
      subst e
      exact K ad ce hv0
    · have hlt : k < 20 := by
        apply Nat.lt_of_not_le
        intro h
        apply c
        show nI 20 ≤ nI k
        rw [leN (by omega) (by omega)]; exact h
      refine b_aload_n 1 dX3_init_26 rfl rfl ?_
      refine b_get (i := i) fD_3_11 (by omega) ((v1 i hi).trans ha) v3 rfl dX3_init_27 ?_
      refine b_iload_n 0 dX3_init_30 rfl rfl ?_
      refine b_new (ci := 5) (N := 9) (fs := [.null, .int 0, .int 0, .int 0, .int 0, .int 0, .int 0, .int 0, .int 0]) tyX5 inT_5 tyX5_ok v_190 v_192 v_57 rfl (by decide) ⟨by show 1 + 2 * k + 1 ≤ 41; omega, by show 20 + 21 * k + 9 ≤ 440; omega⟩ dX3_init_31 (fun a1 ad1 ce1 h1 h2 h3 h4 => ?_)
      refine b_dup dX3_init_34 rfl ?_
      refine b_init (rest := [.ref a1, .int (nI k), .ref (ad n)]) (As := []) lI_3_21 (cI5 _ _ _ _ _ _ _ (n + 1 + 2 * k) _ (by omega) h1 h3) ⟨Nat.le_of_ble_eq_true rfl, Nat.le_of_ble_eq_true rfl⟩ ⟨by show 1 + 2 * k + 1 + 1 ≤ 41; omega, by show 20 + 21 * k + 9 + 12 ≤ 440; omega⟩ rfl rfl (Nat.le_of_ble_eq_true rfl) dX3_init_35 (fun n2 ad2 ce2 hp => ?_)
      obtain ⟨rfl, p1, p2, p3, p4⟩ := hp
      have q1 : ∀ j, j < n + 1 + 2 * k → ad2 j = ad j := fun j hj => (p1 j (by omega)).trans (h2 j (by omega))
      have q2 : ∀ j, j < n + 1 + 2 * k → ce2 j = ce j := fun j hj => (p2 j (by omega) (by omega)).trans (h4 j (by omega))
      refine b_aast (k := 15) (ci := 5) (i := n) (z := n + 1 + 2 * k) (Or.inr (Or.inl ⟨rfl, rfl⟩)) (by omega) (q1 n (by omega)) ((q2 n (by omega)).trans v4) (by omega) ((p1 _ (by omega)).trans h1) p3 (vp_in_nI hlt (by omega)) dX3_init_38 (fun ce3 g1 g2 => ?_)
      refine b_iinc (v := nI (k + 1)) 0 dX3_init_39 rfl (nIs k) (by decide) rfl ?_
      refine b_goto 20 dX3_init_42 (by decide) ?_
      have hn : n + 1 + 2 * k + 1 + 1 = n + 1 + 2 * (k + 1) := by omega
      rw [hn]
      have hcc : 1 + 2 * k + 1 + qI5.2.2.2.cells = 1 + 2 * (k + 1) := by show 1 + 2 * k + 1 + 1 = _; omega
      have hss : 20 + 21 * k + 9 + qI5.2.2.2.slots = 20 + 21 * (k + 1) := by show 20 + 21 * k + 9 + 12 = _; omega
      rw [hcc, hss]
      refine ih (k + 1) ad2 ce3 (by omega) (by omega) ⟨fun j hj => (q1 j (by omega)).trans (v1 j hj), fun j hj hji => ?_, ?_, ?_, fun j hj => ?_⟩
      · rw [g2 j (by omega), q2 j (by omega)]; exact v2 j hj hji
      · rw [g2 i (by omega), q2 i (by omega), v3, q1 n (by omega)]
      · rw [g1, cN (show k < 2 ^ 31 by omega), rwf_up (ad' := ad2) (fun x hx => q1 _ (by omega)) ((p1 _ (by omega)).trans h1)]
      · by_cases e : j = k
        · subst e
          refine ⟨?_, ?_⟩
          · rw [g2 _ (by omega), p3, show n + 1 + 2 * j + 1 = n + 2 + 2 * j by omega]
          · rw [g2 _ (by omega), show n + 2 + 2 * j = n + 1 + 2 * j + 1 by omega]; exact p4
        · obtain ⟨w1, w2⟩ := v5 j (by omega)
          refine ⟨?_, ?_⟩
          · rw [g2 _ (by omega), q2 _ (by omega), q1 _ (by omega)]; exact w1
          · rw [g2 _ (by omega), q2 _ (by omega)]; exact w2
set_option maxRecDepth 100000 in
theorem cI3 (l : Launch) (D : va_G) (cy : Nat → ClassId) (N0 n : Nat) (ad : Nat → Nat) (ce : Nat → va_E) (i a : Nat) (hi : i < n) (ha : ad i = a) (he : ce i = .inr (3, [.null, .int 0])) : MB l D cy N0 yX3_init qI3 n ad ce [.ref a] (fun cy n' ad' ce' => n' = n + 41 ∧ PostC cy n i ad ce ad' ce') := mb_of (by decide) rfl rfl (Nat.le_of_ble_eq_true rfl) (fun E hI hcy => by
  refine b_aload_n 0 dX3_init_0 rfl rfl ?_
  refine b_obj v_189 v_74 v_75 ⟨Nat.le_of_ble_eq_true rfl, Nat.le_of_ble_eq_true rfl⟩ dX3_init_1 ?_
  refine b_aload_n 0 dX3_init_4 rfl rfl ?_
  refine b_bipush (v := 20) dX3_init_5 (by decide) ?_
  refine b_newq (k := 15) (N := 20) (Or.inr (Or.inl rfl)) v_190 (by decide) (by decide) (by decide) ⟨Nat.le_of_ble_eq_true rfl, Nat.le_of_ble_eq_true rfl⟩ dX3_init_7 (fun a1 ad1 ce1 h1 h2 h3 h4 => ?_)
  refine b_putF hI fF_3_11 (show i < n + 1 by omega) ((h2 i (by omega)).trans ha) ((h4 i (by omega)).trans he) rfl rfl (Nat.le_of_ble_eq_true rfl) dX3_init_10 (fun ce2 g1 g2 => ?_)
  refine b_aload_n 0 dX3_init_13 rfl rfl ?_
  refine b_iconst (v := 1) dX3_init_14 (by decide) ?_
  refine b_put fP_3_17 (show i < n + 1 by omega) ((h2 i (by omega)).trans ha) g1 rfl rfl (Nat.le_of_ble_eq_true rfl) dX3_init_15 (fun ce3 k1 k2 => ?_)
  refine b_iconst (v := nI 0) dX3_init_18 (by decide) ?_
  refine b_istore_n dX3_init_19 rfl (by decide) rfl ?_
  refine loopC (ad0 := ad) (ce0 := ce) hi ha (fun ad' ce' hv => ?_) 21 0 ad1 ce3 (by omega) (by omega) ⟨fun j hj => h2 j (by omega), fun j hj hji => ((k2 j hji).trans (g2 j hji)).trans (h4 j (by omega)), by rw [k1, h1]; rfl, by rw [k2 n (by omega), g2 n (by omega), h3, rwf_0 (ad := ad1)], fun j hj => by omega⟩
  obtain ⟨v1, v2, v3, v4, v5⟩ := hv
  obtain ⟨z1, z2⟩ := v5 0 (by omega)
  have hr0 : rwf ad' (n + 1) 2 20 ((0 : Int32).toNatClampNeg) = some (ad' (n + 1 + 2 * 0)) := rfl
  refine b_aload_n 1 dX3_init_45 rfl rfl ?_
  refine b_get (i := i) fD_3_11 (by omega) ((v1 i hi).trans ha) v3 rfl dX3_init_46 ?_
  refine b_iconst (v := 0) dX3_init_49 (by decide) ?_
  refine b_aald (k := 15) (i := n) (Or.inr (Or.inl rfl)) (by omega) rfl v4 (show vp_in (nI 0) 20 from vp_in_nI (by omega) (by omega)) hr0 dX3_init_50 ?_
  refine b_iconst (v := 0) dX3_init_51 (by decide) ?_
  refine b_put (i := n + 1 + 2 * 0) fP_3_22 (by omega) rfl z1 rfl rfl (Nat.le_of_ble_eq_true rfl) dX3_init_52 (fun ce4 m1 m2 => ?_)
  refine b_aload_n 1 dX3_init_55 rfl rfl ?_
  refine b_get (i := i) fD_3_11 (by omega) ((v1 i hi).trans ha) ((m2 i (by omega)).trans v3) rfl dX3_init_56 ?_
  refine b_iconst (v := 0) dX3_init_59 (by decide) ?_
  refine b_aald (k := 15) (i := n) (Or.inr (Or.inl rfl)) (by omega) rfl ((m2 n (by omega)).trans v4) (show vp_in (nI 0) 20 from vp_in_nI (by omega) (by omega)) hr0 dX3_init_60 ?_
  refine b_sipush (v := 200) dX3_init_61 (by decide) ?_
  refine b_put (i := n + 1 + 2 * 0) fP_3_25 (by omega) rfl m1 rfl rfl (Nat.le_of_ble_eq_true rfl) dX3_init_64 (fun ce5 r1 r2 => ?_)
  refine b_vret hI ⟨rfl, v1, fun j hj hji => ?_, ?_, ?_, fun j hj => ?_⟩ (Nat.le_of_ble_eq_true rfl) (Nat.le_of_ble_eq_true rfl) dX3_init_67
  · rw [r2 j (by omega), m2 j (by omega)]; exact v2 j hj hji
  · rw [r2 i (by omega), m2 i (by omega)]; exact v3
  · rw [r2 n (by omega), m2 n (by omega)]; exact v4
  · obtain ⟨w1, w2⟩ := v5 j hj
    refine ⟨?_, ?_⟩
    · by_cases e : j = 0
      · subst e; rw [r1]; rfl
      · rw [r2 _ (by omega), m2 _ (by omega), w1, if_neg e]
    · rw [r2 _ (by omega), m2 _ (by omega)]; exact w2)
