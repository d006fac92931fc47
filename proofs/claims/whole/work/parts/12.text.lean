def fX4_toNextWord_60  : Nat → Mem → Option Mem
  | 0, _ => none
  | n + 1, σ =>
    if σ 6 1 ≤ σ 8 2 then
      (some σ)
    else
      (if inb (σ 8 2) 48 = true then
      (if σ 7 ((σ 8 2).toNatClampNeg) = 32 then
        (some σ)
      else
        (bm (mset σ 8 2 ((σ 8 2) + 1)) (fun m1 =>
        fX4_toNextWord_60 n m1)))
      else none)
set_option maxHeartbeats 4000000 in
set_option maxRecDepth 20000 in
theorem gX4_toNextWord_60 (E : XE)  {r : Mem}  : ∀ (n : Nat) (σ : Mem), fX4_toNextWord_60 n σ = some r → G E LX qX4_toNextWord σ 60 [(0, .ref (xa E 8))] [] (none, r) := by
  intro n
  induction n with
  | zero => intro σ h; cases h
  | succ n ih =>
    intro σ h
    unfold fX4_toNextWord_60 at h
    refine r_aload_n (pc := 60) 0 dX4_toNextWord_60 rfl rfl ?_
    refine r_getI (pc := 61) (i := 8) fdRX4_15 nLX_8 kLX_8 (by decide) dX4_toNextWord_61 ?_
    refine r_aload_n (pc := 64) 0 dX4_toNextWord_64 rfl rfl ?_
    refine r_getR (pc := 65) (i := 8) (j := 6) fdRX4_9 nLX_8 kLX_8 (by decide) rfl dX4_toNextWord_65 ?_
    refine r_getI (pc := 68) (i := 6) fdRX4_49 nLX_6 kLX_6 (by decide) dX4_toNextWord_68 ?_
    refine r_icmp_ge (pc := 71) 104 dX4_toNextWord_71 (by decide) h (fun c1 h => ?_) (fun c1 h => ?_)
    · exact r_vret (pc := 104) rfl dX4_toNextWord_104 (Option.some.inj h)
    · refine r_aload_n (pc := 74) 0 dX4_toNextWord_74 rfl rfl ?_
      refine r_getR (pc := 75) (i := 8) (j := 6) fdRX4_9 nLX_8 kLX_8 (by decide) rfl dX4_toNextWord_75 ?_
      refine r_getR (pc := 78) (i := 6) (j := 7) fdRX4_79 nLX_6 kLX_6 (by decide) rfl dX4_toNextWord_78 ?_
      refine r_aload_n (pc := 81) 0 dX4_toNextWord_81 rfl rfl ?_
      refine r_getI (pc := 82) (i := 8) fdRX4_15 nLX_8 kLX_8 (by decide) dX4_toNextWord_82 ?_
      refine inb_k h (fun b1 h => ?_)
      refine r_bald (pc := 85) (i := 7) ((σ 8 2).toNatClampNeg) rfl nLX_7 kLX_7 lLX_7 b1 dX4_toNextWord_85 ?_
      refine r_bipush (pc := 86) dX4_toNextWord_86 cb_32 ?_
      refine r_icmp_eq (pc := 88) 104 dX4_toNextWord_88 (by decide) h (fun c2 h => ?_) (fun c2 h => ?_)
      · exact r_vret (pc := 104) rfl dX4_toNextWord_104 (Option.some.inj h)
      · refine r_aload_n (pc := 91) 0 dX4_toNextWord_91 rfl rfl ?_
        refine r_dup (pc := 92) dX4_toNextWord_92 rfl ?_
        refine r_getI (pc := 93) (i := 8) fdRX4_15 nLX_8 kLX_8 (by decide) dX4_toNextWord_93 ?_
        refine r_iconst (pc := 96) dX4_toNextWord_96 ci_1 ?_
        refine r_iadd (pc := 97) dX4_toNextWord_97 ?_
        refine r_putI (pc := 98) (i := 8) fpRX4_15 nLX_8 kLX_8 (by decide) rfl rfl dX4_toNextWord_98 ?_
        refine g_bm h (fun m1 em1 h => ?_)
        refine r_goto (pc := 101) 60 dX4_toNextWord_101 (by decide) ?_
        exact ih m1 h
def fX4_toNextWord_8  : Nat → Mem → Option Mem
  | 0, _ => none
  | n + 1, σ =>
    if σ 6 1 ≤ σ 8 1 then
      (bm (mset σ 8 2 (σ 8 1)) (fun m1 =>
      fX4_toNextWord_60 300 m1))
    else
      (if inb (σ 8 1) 48 = true then
      (if σ 7 ((σ 8 1).toNatClampNeg) = 32 then
        (bm (mset σ 8 1 ((σ 8 1) + 1)) (fun m2 =>
        fX4_toNextWord_8 n m2))
      else
        (bm (mset σ 8 2 (σ 8 1)) (fun m3 =>
        fX4_toNextWord_60 300 m3)))
      else none)
set_option maxHeartbeats 4000000 in
set_option maxRecDepth 20000 in
theorem gX4_toNextWord_8 (E : XE)  {r : Mem}  : ∀ (n : Nat) (σ : Mem), fX4_toNextWord_8 n σ = some r → G E LX qX4_toNextWord σ 8 [(0, .ref (xa E 8))] [] (none, r) := by
  intro n
  induction n with
  | zero => intro σ h; cases h
  | succ n ih =>
    intro σ h
    unfold fX4_toNextWord_8 at h
    refine r_aload_n (pc := 8) 0 dX4_toNextWord_8 rfl rfl ?_
    refine r_getI (pc := 9) (i := 8) fdRX4_46 nLX_8 kLX_8 (by decide) dX4_toNextWord_9 ?_
    refine r_aload_n (pc := 12) 0 dX4_toNextWord_12 rfl rfl ?_
    refine r_getR (pc := 13) (i := 8) (j := 6) fdRX4_9 nLX_8 kLX_8 (by decide) rfl dX4_toNextWord_13 ?_
    refine r_getI (pc := 16) (i := 6) fdRX4_49 nLX_6 kLX_6 (by decide) dX4_toNextWord_16 ?_
    refine r_icmp_ge (pc := 19) 52 dX4_toNextWord_19 (by decide) h (fun c1 h => ?_) (fun c1 h => ?_)
    · refine r_aload_n (pc := 52) 0 dX4_toNextWord_52 rfl rfl ?_
      refine r_aload_n (pc := 53) 0 dX4_toNextWord_53 rfl rfl ?_
      refine r_getI (pc := 54) (i := 8) fdRX4_46 nLX_8 kLX_8 (by decide) dX4_toNextWord_54 ?_
      refine r_putI (pc := 57) (i := 8) fpRX4_15 nLX_8 kLX_8 (by decide) rfl rfl dX4_toNextWord_57 ?_
      refine g_bm h (fun m1 em1 h => ?_)
      exact gX4_toNextWord_60 E 300 m1 h
    · refine r_aload_n (pc := 22) 0 dX4_toNextWord_22 rfl rfl ?_
      refine r_getR (pc := 23) (i := 8) (j := 6) fdRX4_9 nLX_8 kLX_8 (by decide) rfl dX4_toNextWord_23 ?_
      refine r_getR (pc := 26) (i := 6) (j := 7) fdRX4_79 nLX_6 kLX_6 (by decide) rfl dX4_toNextWord_26 ?_
      refine r_aload_n (pc := 29) 0 dX4_toNextWord_29 rfl rfl ?_
      refine r_getI (pc := 30) (i := 8) fdRX4_46 nLX_8 kLX_8 (by decide) dX4_toNextWord_30 ?_
      refine inb_k h (fun b1 h => ?_)
      refine r_bald (pc := 33) (i := 7) ((σ 8 1).toNatClampNeg) rfl nLX_7 kLX_7 lLX_7 b1 dX4_toNextWord_33 ?_
      refine r_bipush (pc := 34) dX4_toNextWord_34 cb_32 ?_
      refine r_icmp_ne (pc := 36) 52 dX4_toNextWord_36 (by decide) h (fun c2 h => ?_) (fun c2 h => ?_)
      · refine r_aload_n (pc := 39) 0 dX4_toNextWord_39 rfl rfl ?_
        refine r_dup (pc := 40) dX4_toNextWord_40 rfl ?_
        refine r_getI (pc := 41) (i := 8) fdRX4_46 nLX_8 kLX_8 (by decide) dX4_toNextWord_41 ?_
        refine r_iconst (pc := 44) dX4_toNextWord_44 ci_1 ?_
        refine r_iadd (pc := 45) dX4_toNextWord_45 ?_
        refine r_putI (pc := 46) (i := 8) fpRX4_46 nLX_8 kLX_8 (by decide) rfl rfl dX4_toNextWord_46 ?_
        refine g_bm h (fun m2 em2 h => ?_)
        refine r_goto (pc := 49) 8 dX4_toNextWord_49 (by decide) ?_
        exact ih m2 h
      · refine r_aload_n (pc := 52) 0 dX4_toNextWord_52 rfl rfl ?_
        refine r_aload_n (pc := 53) 0 dX4_toNextWord_53 rfl rfl ?_
        refine r_getI (pc := 54) (i := 8) fdRX4_46 nLX_8 kLX_8 (by decide) dX4_toNextWord_54 ?_
        refine r_putI (pc := 57) (i := 8) fpRX4_15 nLX_8 kLX_8 (by decide) rfl rfl dX4_toNextWord_57 ?_
        refine g_bm h (fun m3 em3 h => ?_)
        exact gX4_toNextWord_60 E 300 m3 h
def fX4_toNextWord (σ : Mem)  : Option Mem :=
  bm (mset σ 8 1 (σ 8 2)) (fun m1 =>
  fX4_toNextWord_8 300 m1)
set_option maxHeartbeats 4000000 in
set_option maxRecDepth 20000 in
theorem gX4_toNextWord (E : XE) {r : Mem} (σ : Mem)   (h : fX4_toNextWord σ  = some r) : G E LX qX4_toNextWord σ 0 [(0, .ref (xa E 8))] [] (none, r) := by
  unfold fX4_toNextWord at h
  refine r_aload_n (pc := 0) 0 dX4_toNextWord_0 rfl rfl ?_
  refine r_aload_n (pc := 1) 0 dX4_toNextWord_1 rfl rfl ?_
  refine r_getI (pc := 2) (i := 8) fdRX4_15 nLX_8 kLX_8 (by decide) dX4_toNextWord_2 ?_
  refine r_putI (pc := 5) (i := 8) fpRX4_46 nLX_8 kLX_8 (by decide) rfl rfl dX4_toNextWord_5 ?_
  refine g_bm h (fun m1 em1 h => ?_)
  exact gX4_toNextWord_8 E 300 m1 h
theorem ceX4_toNextWord (l : Launch) (d : SD) (σ : Mem)   {r : Mem} (h : fX4_toNextWord σ  = some r) : Me l d LX yX4_toNextWord qX4_toNextWord σ [.ref (d.2.2.1 8)] (none, r) := me_of (avs := fun d => [.ref (d.2.2.1 8)]) (by decide) rfl (Nat.le_of_ble_eq_true rfl) (fun E => gX4_toNextWord E σ   h)
def fX4_number_20  : Nat → Mem → Int32 → Int32 → Option Int32
  | 0, _, _, _ => none
  | n + 1, σ, v1, v2 =>
    if σ 8 2 ≤ v2 then
      (some (v1))
    else
      (if inb v2 48 = true then
      (bi ((σ 7 v2.toNatClampNeg) - 48) (fun x1 =>
      if fX9_isWithin σ x1 0 9 = 0 then
        (some ((-1)))
      else
        (bi ((if 10000 < (10 * v1) + x1 then 10000 else (10 * v1) + x1)) (fun x2 =>
        fX4_number_20 n σ x2 (v2 + 1)))))
      else none)
set_option maxHeartbeats 4000000 in
set_option maxRecDepth 20000 in
theorem gX4_number_20 (E : XE)  {r : Int32}  (n : Nat) (σ : Mem) : ∀ (v1 : Int32) (v2 : Int32), fX4_number_20 n σ v1 v2 = some r → G E LX qX4_number σ 20 [(0, .ref (xa E 8)), (1, .int v1), (2, .int v2)] [] (some r, σ) := by
  induction n with
  | zero => intro v1 v2 h; cases h
  | succ n ih =>
    intro v1 v2 h
    unfold fX4_number_20 at h
    refine r_iload_n (pc := 20) 2 dX4_number_20 rfl rfl ?_
    refine r_aload_n (pc := 21) 0 dX4_number_21 rfl rfl ?_
    refine r_getI (pc := 22) (i := 8) fdRX4_15 nLX_8 kLX_8 (by decide) dX4_number_22 ?_
    refine r_icmp_ge (pc := 25) 72 dX4_number_25 (by decide) h (fun c1 h => ?_) (fun c1 h => ?_)
    · refine r_iload_n (pc := 72) 1 dX4_number_72 rfl rfl ?_
      exact r_iret (pc := 73) rfl dX4_number_73 (Option.some.inj h) rfl
    · refine r_aload_n (pc := 28) 0 dX4_number_28 rfl rfl ?_
      refine r_getR (pc := 29) (i := 8) (j := 6) fdRX4_9 nLX_8 kLX_8 (by decide) rfl dX4_number_29 ?_
      refine r_getR (pc := 32) (i := 6) (j := 7) fdRX4_79 nLX_6 kLX_6 (by decide) rfl dX4_number_32 ?_
      refine r_iload_n (pc := 35) 2 dX4_number_35 rfl rfl ?_
      refine inb_k h (fun b1 h => ?_)
      refine r_bald (pc := 36) (i := 7) (v2.toNatClampNeg) rfl nLX_7 kLX_7 lLX_7 b1 dX4_number_36 ?_
      refine r_bipush (pc := 37) dX4_number_37 cb_48 ?_
      refine r_isub (pc := 39) dX4_number_39 ?_
      refine g_bi h (fun x1 ex1 h => ?_)
      refine r_istore_n (pc := 40) (lv' := [(3, .int x1), (0, .ref (xa E 8)), (1, .int v1), (2, .int v2)]) dX4_number_40 rfl (Nat.le_of_ble_eq_true rfl) rfl ?_
      refine r_iload_n (pc := 41) 0 dX4_number_41 rfl rfl ?_
      refine r_iconst (pc := 42) dX4_number_42 ci_0 ?_
      refine r_bipush (pc := 43) dX4_number_43 cb_9 ?_
      refine r_callS (pc := 45) (As := [.int x1, .int 0, .int 9]) (rest := []) lkRX4_29 (ceX9_isWithin _ _ σ x1 0 9 rfl) ⟨Nat.le_of_ble_eq_true rfl, Nat.le_of_ble_eq_true rfl⟩ rfl rfl (Nat.le_of_ble_eq_true rfl) dX4_number_45 rfl ?_
      refine r_if_ne (pc := 48) 53 dX4_number_48 (by decide) h (fun c2 h => ?_) (fun c2 h => ?_)
      · refine r_iconst (pc := 51) dX4_number_51 ci_m1 ?_
        exact r_iret (pc := 52) rfl dX4_number_52 (Option.some.inj h) rfl
      · refine r_bipush (pc := 53) dX4_number_53 cb_10 ?_
        refine r_iload_n (pc := 55) 2 dX4_number_55 rfl rfl ?_
        refine r_imul (pc := 56) dX4_number_56 ?_
        refine r_iload_n (pc := 57) 0 dX4_number_57 rfl rfl ?_
        refine r_iadd (pc := 58) dX4_number_58 ?_
        refine r_sipush (pc := 59) dX4_number_59 cs_10000 ?_
        refine r_min (pc := 62) w_494 w_401 w_62 w_402 ⟨Nat.le_of_ble_eq_true rfl, Nat.le_of_ble_eq_true rfl⟩ dX4_number_62 ?_
        refine g_bi h (fun x2 ex2 h => ?_)
        refine r_istore_n (pc := 65) (lv' := [(1, .int x2), (3, .int x1), (0, .ref (xa E 8)), (2, .int v2)]) dX4_number_65 rfl (Nat.le_of_ble_eq_true rfl) rfl ?_
        refine r_iinc (pc := 66) (v := v2 + 1) (lv' := [(2, .int (v2 + 1)), (1, .int x2), (3, .int x1), (0, .ref (xa E 8))]) 3 dX4_number_66 rfl (by rw [ci_1]) (Nat.le_of_ble_eq_true rfl) rfl ?_
        refine r_goto (pc := 69) 20 dX4_number_69 (by decide) ?_
        refine r_sub [3, 1, 0] rfl ?_
        exact ih x2 (v2 + 1) h
def fX4_number (σ : Mem)  : Option Int32 :=
  if σ 8 1 = σ 8 2 then
    (some ((-1)))
  else
    (bi (σ 8 1) (fun x1 =>
    fX4_number_20 300 σ 0 x1))
set_option maxHeartbeats 4000000 in
set_option maxRecDepth 20000 in
theorem gX4_number (E : XE) {r : Int32} (σ : Mem)   (h : fX4_number σ  = some r) : G E LX qX4_number σ 0 [(0, .ref (xa E 8))] [] (some r, σ) := by
  unfold fX4_number at h
  refine r_aload_n (pc := 0) 0 dX4_number_0 rfl rfl ?_
  refine r_getI (pc := 1) (i := 8) fdRX4_46 nLX_8 kLX_8 (by decide) dX4_number_1 ?_
  refine r_aload_n (pc := 4) 0 dX4_number_4 rfl rfl ?_
  refine r_getI (pc := 5) (i := 8) fdRX4_15 nLX_8 kLX_8 (by decide) dX4_number_5 ?_
  refine r_icmp_ne (pc := 8) 13 dX4_number_8 (by decide) h (fun c1 h => ?_) (fun c1 h => ?_)
  · refine r_iconst (pc := 11) dX4_number_11 ci_m1 ?_
    exact r_iret (pc := 12) rfl dX4_number_12 (Option.some.inj h) rfl
  · refine r_iconst (pc := 13) dX4_number_13 ci_0 ?_
    refine r_istore_n (pc := 14) (lv' := [(1, .int 0), (0, .ref (xa E 8))]) dX4_number_14 rfl (Nat.le_of_ble_eq_true rfl) rfl ?_
    refine r_aload_n (pc := 15) 1 dX4_number_15 rfl rfl ?_
    refine r_getI (pc := 16) (i := 8) fdRX4_46 nLX_8 kLX_8 (by decide) dX4_number_16 ?_
    refine g_bi h (fun x1 ex1 h => ?_)
    refine r_istore_n (pc := 19) (lv' := [(2, .int x1), (1, .int 0), (0, .ref (xa E 8))]) dX4_number_19 rfl (Nat.le_of_ble_eq_true rfl) rfl ?_
    refine r_sub [2, 1, 0] rfl ?_
    exact gX4_number_20 E 300 σ 0 x1 h
theorem ceX4_number (l : Launch) (d : SD) (σ : Mem)   {r : Int32} (h : fX4_number σ  = some r) : Me l d LX yX4_number qX4_number σ [.ref (d.2.2.1 8)] (some r, σ) := me_of (avs := fun d => [.ref (d.2.2.1 8)]) (by decide) rfl (Nat.le_of_ble_eq_true rfl) (fun E => gX4_number E σ   h)
def fX4_isWord_20  : Nat → Mem → Nat → Int32 → Option Int32
  | 0, _, _, _ => none
  | n + 1, σ, v1, v2 =>
    if nI (lenJS.getD v1 0) ≤ v2 then
      (some (1))
    else
      (if inb ((σ 8 1) + v2) 48 = true then
      (if inb v2 (lenJS.getD v1 0) = true then
      (if σ 7 (((σ 8 1) + v2).toNatClampNeg) = chJS v1 v2.toNatClampNeg then
        (fX4_isWord_20 n σ v1 (v2 + 1))
      else
        (some (0)))
      else none)
      else none)
set_option maxHeartbeats 4000000 in
set_option maxRecDepth 20000 in
theorem gX4_isWord_20 (E : XE)  {r : Int32}  (n : Nat) (σ : Mem) : ∀ (v1 : Nat) (v2 : Int32), v1 < nJS → fX4_isWord_20 n σ v1 v2 = some r → G E LX qX4_isWord σ 20 [(0, .ref (xa E 8)), (1, .ref (xs E v1)), (2, .int v2)] [] (some r, σ) := by
  induction n with
  | zero => intro v1 v2 j_v1 h; cases h
  | succ n ih =>
    intro v1 v2 j_v1 h
    unfold fX4_isWord_20 at h
    refine r_iload_n (pc := 20) 2 dX4_isWord_20 rfl rfl ?_
    refine r_aload_n (pc := 21) 1 dX4_isWord_21 rfl rfl ?_
    refine r_callT (pc := 22) (j := v1) (As := []) (rest := [.int v2]) lkRX4_83 (c_length _ _ σ j_v1) j_v1 rfl ⟨Nat.le_of_ble_eq_true rfl, Nat.le_of_ble_eq_true rfl⟩ rfl rfl (Nat.le_of_ble_eq_true rfl) dX4_isWord_22 rfl ?_
    refine r_icmp_ge (pc := 25) 58 dX4_isWord_25 (by decide) h (fun c1 h => ?_) (fun c1 h => ?_)
    · refine r_iconst (pc := 58) dX4_isWord_58 ci_1 ?_
      exact r_zret (pc := 59) rfl rfl dX4_isWord_59 (Option.some.inj h) rfl
    · refine r_aload_n (pc := 28) 0 dX4_isWord_28 rfl rfl ?_
      refine r_getR (pc := 29) (i := 8) (j := 6) fdRX4_9 nLX_8 kLX_8 (by decide) rfl dX4_isWord_29 ?_
      refine r_getR (pc := 32) (i := 6) (j := 7) fdRX4_79 nLX_6 kLX_6 (by decide) rfl dX4_isWord_32 ?_
      refine r_aload_n (pc := 35) 0 dX4_isWord_35 rfl rfl ?_
      refine r_getI (pc := 36) (i := 8) fdRX4_46 nLX_8 kLX_8 (by decide) dX4_isWord_36 ?_
      refine r_iload_n (pc := 39) 2 dX4_isWord_39 rfl rfl ?_
      refine r_iadd (pc := 40) dX4_isWord_40 ?_
      refine inb_k h (fun b1 h => ?_)
      refine r_bald (pc := 41) (i := 7) (((σ 8 1) + v2).toNatClampNeg) rfl nLX_7 kLX_7 lLX_7 b1 dX4_isWord_41 ?_
      refine r_aload_n (pc := 42) 1 dX4_isWord_42 rfl rfl ?_
      refine r_iload_n (pc := 43) 2 dX4_isWord_43 rfl rfl ?_
      refine inb_k h (fun b2 h => ?_)
      refine r_callT (pc := 44) (j := v1) (As := [.int v2]) (rest := [.int (σ 7 (((σ 8 1) + v2).toNatClampNeg))]) lkRX4_88 (c_charAt _ _ σ j_v1 b2) j_v1 rfl ⟨Nat.le_of_ble_eq_true rfl, Nat.le_of_ble_eq_true rfl⟩ rfl rfl (Nat.le_of_ble_eq_true rfl) dX4_isWord_44 rfl ?_
      refine r_icmp_eq (pc := 47) 52 dX4_isWord_47 (by decide) h (fun c2 h => ?_) (fun c2 h => ?_)
      · refine r_iinc (pc := 52) (v := v2 + 1) (lv' := [(2, .int (v2 + 1)), (0, .ref (xa E 8)), (1, .ref (xs E v1))]) 2 dX4_isWord_52 rfl (by rw [ci_1]) (Nat.le_of_ble_eq_true rfl) rfl ?_
        refine r_goto (pc := 55) 20 dX4_isWord_55 (by decide) ?_
        refine r_sub [1, 2, 0] rfl ?_
        exact ih v1 (v2 + 1) j_v1 h
      · refine r_iconst (pc := 50) dX4_isWord_50 ci_0 ?_
        exact r_zret (pc := 51) rfl rfl dX4_isWord_51 (Option.some.inj h) rfl
def fX4_isWord (σ : Mem) (v1 : Nat) : Option Int32 :=
  if (σ 8 2) - (σ 8 1) = nI (lenJS.getD v1 0) then
    (fX4_isWord_20 300 σ v1 0)
  else
    (some (0))
set_option maxHeartbeats 4000000 in
set_option maxRecDepth 20000 in
theorem gX4_isWord (E : XE) {r : Int32} (σ : Mem) (v1 : Nat) (j_v1 : v1 < nJS) (h : fX4_isWord σ v1 = some r) : G E LX qX4_isWord σ 0 [(0, .ref (xa E 8)), (1, .ref (xs E v1))] [] (some r, σ) := by
  unfold fX4_isWord at h
  refine r_aload_n (pc := 0) 0 dX4_isWord_0 rfl rfl ?_
  refine r_getI (pc := 1) (i := 8) fdRX4_15 nLX_8 kLX_8 (by decide) dX4_isWord_1 ?_
  refine r_aload_n (pc := 4) 0 dX4_isWord_4 rfl rfl ?_
  refine r_getI (pc := 5) (i := 8) fdRX4_46 nLX_8 kLX_8 (by decide) dX4_isWord_5 ?_
  refine r_isub (pc := 8) dX4_isWord_8 ?_
  refine r_aload_n (pc := 9) 1 dX4_isWord_9 rfl rfl ?_
  refine r_callT (pc := 10) (j := v1) (As := []) (rest := [.int ((σ 8 2) - (σ 8 1))]) lkRX4_83 (c_length _ _ σ j_v1) j_v1 rfl ⟨Nat.le_of_ble_eq_true rfl, Nat.le_of_ble_eq_true rfl⟩ rfl rfl (Nat.le_of_ble_eq_true rfl) dX4_isWord_10 rfl ?_
  refine r_icmp_eq (pc := 13) 18 dX4_isWord_13 (by decide) h (fun c1 h => ?_) (fun c1 h => ?_)
  · refine r_iconst (pc := 18) dX4_isWord_18 ci_0 ?_
    refine r_istore_n (pc := 19) (lv' := [(2, .int 0), (0, .ref (xa E 8)), (1, .ref (xs E v1))]) dX4_isWord_19 rfl (Nat.le_of_ble_eq_true rfl) rfl ?_
    refine r_sub [1, 2, 0] rfl ?_
    exact gX4_isWord_20 E 300 σ v1 0 j_v1 h
  · refine r_iconst (pc := 16) dX4_isWord_16 ci_0 ?_
    exact r_zret (pc := 17) rfl rfl dX4_isWord_17 (Option.some.inj h) rfl
theorem ceX4_isWord (l : Launch) (d : SD) (σ : Mem) (v1 : Nat) (j_v1 : v1 < nJS) {r : Int32} (h : fX4_isWord σ v1 = some r) : Me l d LX yX4_isWord qX4_isWord σ [.ref (d.2.2.1 8), .ref (d.2.2.2.1 v1)] (some r, σ) := me_of (avs := fun d => [.ref (d.2.2.1 8), .ref (d.2.2.2.1 v1)]) (by decide) rfl (Nat.le_of_ble_eq_true rfl) (fun E => gX4_isWord E σ v1 j_v1 h)
def fX4_isEndRead_111  (σ : Mem)  : Option (Int32 × Mem) :=
  bo (fX4_toNextWord σ) (fun z1 =>
  some (1, z1))
set_option maxHeartbeats 4000000 in
set_option maxRecDepth 20000 in
theorem gX4_isEndRead_111 (E : XE)  {r : Int32 × Mem}  (σ : Mem)   (h : fX4_isEndRead_111 σ = some r) : G E LX qX4_isEndRead σ 111 [(0, .ref (xa E 8))] [] (some r.1, r.2) := by
  unfold fX4_isEndRead_111 at h
  refine r_aload_n (pc := 111) 0 dX4_isEndRead_111 rfl rfl ?_
  refine bo_k h (fun z1 hz1 h => ?_)
  refine r_callV (pc := 112) (i := 8) (As := []) (rest := []) lkRX4_19 (ceX4_toNextWord _ _ σ hz1) nLX_8 kLX_8 (by decide) rfl ⟨Nat.le_of_ble_eq_true rfl, Nat.le_of_ble_eq_true rfl⟩ rfl rfl (Nat.le_of_ble_eq_true rfl) dX4_isEndRead_112 rfl ?_
  refine r_iconst (pc := 115) dX4_isEndRead_115 ci_1 ?_
  exact r_zretW (pc := 116) rfl rfl dX4_isEndRead_116 h
def fX4_isEndRead (σ : Mem) (v1 : Int32) : Option (Int32 × Mem) :=
  bo (fX4_isWord σ 1) (fun z1 =>
  if z1 = 0 then
    (bo (fX4_isWord σ 2) (fun z2 =>
    if z2 = 0 then
      (bo (fX4_isWord σ 3) (fun z3 =>
      if z3 = 0 then
        (bo (fX4_isWord σ 4) (fun z4 =>
        if z4 = 0 then
          (bo (fX4_isWord σ 5) (fun z5 =>
          if z5 = 0 then
            (some (0, σ))
          else
            (bm (mset σ 8 4 3) (fun m1 =>
            fX4_isEndRead_111 m1))))
        else
          (bm (mset σ 8 4 2) (fun m2 =>
          fX4_isEndRead_111 m2))))
      else
        (bm (mset σ 8 4 1) (fun m3 =>
        fX4_isEndRead_111 m3))))
    else
      (bm (mset σ 8 4 0) (fun m4 =>
      fX4_isEndRead_111 m4))))
  else
    (bo (fX4_toNextWord σ) (fun z6 =>
    bo (fX4_number z6) (fun z7 =>
    if fX9_isWithin z6 z7 0 (v1 - 1) = 0 then
      (some (0, z6))
    else
      (bm (mset z6 8 4 (4 + z7)) (fun m5 =>
      fX4_isEndRead_111 m5))))))
set_option maxHeartbeats 4000000 in
set_option maxRecDepth 20000 in
theorem gX4_isEndRead (E : XE) {r : Int32 × Mem} (σ : Mem) (v1 : Int32)  (h : fX4_isEndRead σ v1 = some r) : G E LX qX4_isEndRead σ 0 [(0, .ref (xa E 8)), (1, .int v1)] [] (some r.1, r.2) := by
  unfold fX4_isEndRead at h
  refine r_aload_n (pc := 0) 0 dX4_isEndRead_0 rfl rfl ?_
  refine r_ldcS (pc := 1) (j := 1) (by decide) rfl rfl dX4_isEndRead_1 ?_
  refine bo_k h (fun z1 hz1 h => ?_)
  refine r_callV (pc := 3) (i := 8) (As := [.ref (xs E 1)]) (rest := []) lkRX4_35 (ceX4_isWord _ _ σ 1 (by decide) hz1) nLX_8 kLX_8 (by decide) rfl ⟨Nat.le_of_ble_eq_true rfl, Nat.le_of_ble_eq_true rfl⟩ rfl rfl (Nat.le_of_ble_eq_true rfl) dX4_isEndRead_3 rfl ?_
  refine r_if_eq (pc := 6) 41 dX4_isEndRead_6 (by decide) h (fun c1 h => ?_) (fun c1 h => ?_)
  · refine r_aload_n (pc := 41) 0 dX4_isEndRead_41 rfl rfl ?_
    refine r_ldcS (pc := 42) (j := 2) (by decide) rfl rfl dX4_isEndRead_42 ?_
    refine bo_k h (fun z2 hz2 h => ?_)
    refine r_callV (pc := 44) (i := 8) (As := [.ref (xs E 2)]) (rest := []) lkRX4_35 (ceX4_isWord _ _ σ 2 (by decide) hz2) nLX_8 kLX_8 (by decide) rfl ⟨Nat.le_of_ble_eq_true rfl, Nat.le_of_ble_eq_true rfl⟩ rfl rfl (Nat.le_of_ble_eq_true rfl) dX4_isEndRead_44 rfl ?_
    refine r_if_eq (pc := 47) 58 dX4_isEndRead_47 (by decide) h (fun c2 h => ?_) (fun c2 h => ?_)
    · refine r_aload_n (pc := 58) 0 dX4_isEndRead_58 rfl rfl ?_
      refine r_ldcS (pc := 59) (j := 3) (by decide) rfl rfl dX4_isEndRead_59 ?_
      refine bo_k h (fun z3 hz3 h => ?_)
      refine r_callV (pc := 61) (i := 8) (As := [.ref (xs E 3)]) (rest := []) lkRX4_35 (ceX4_isWord _ _ σ 3 (by decide) hz3) nLX_8 kLX_8 (by decide) rfl ⟨Nat.le_of_ble_eq_true rfl, Nat.le_of_ble_eq_true rfl⟩ rfl rfl (Nat.le_of_ble_eq_true rfl) dX4_isEndRead_61 rfl ?_
      refine r_if_eq (pc := 64) 75 dX4_isEndRead_64 (by decide) h (fun c3 h => ?_) (fun c3 h => ?_)
      · refine r_aload_n (pc := 75) 0 dX4_isEndRead_75 rfl rfl ?_
        refine r_ldcS (pc := 76) (j := 4) (by decide) rfl rfl dX4_isEndRead_76 ?_
        refine bo_k h (fun z4 hz4 h => ?_)
        refine r_callV (pc := 78) (i := 8) (As := [.ref (xs E 4)]) (rest := []) lkRX4_35 (ceX4_isWord _ _ σ 4 (by decide) hz4) nLX_8 kLX_8 (by decide) rfl ⟨Nat.le_of_ble_eq_true rfl, Nat.le_of_ble_eq_true rfl⟩ rfl rfl (Nat.le_of_ble_eq_true rfl) dX4_isEndRead_78 rfl ?_
        refine r_if_eq (pc := 81) 92 dX4_isEndRead_81 (by decide) h (fun c4 h => ?_) (fun c4 h => ?_)
        · refine r_aload_n (pc := 92) 0 dX4_isEndRead_92 rfl rfl ?_
          refine r_ldcS (pc := 93) (j := 5) (by decide) rfl rfl dX4_isEndRead_93 ?_
          refine bo_k h (fun z5 hz5 h => ?_)
          refine r_callV (pc := 95) (i := 8) (As := [.ref (xs E 5)]) (rest := []) lkRX4_35 (ceX4_isWord _ _ σ 5 (by decide) hz5) nLX_8 kLX_8 (by decide) rfl ⟨Nat.le_of_ble_eq_true rfl, Nat.le_of_ble_eq_true rfl⟩ rfl rfl (Nat.le_of_ble_eq_true rfl) dX4_isEndRead_95 rfl ?_
          refine r_if_eq (pc := 98) 109 dX4_isEndRead_98 (by decide) h (fun c5 h => ?_) (fun c5 h => ?_)
          · refine r_iconst (pc := 109) dX4_isEndRead_109 ci_0 ?_
            exact r_zretW (pc := 110) rfl rfl dX4_isEndRead_110 h
          · refine r_aload_n (pc := 101) 0 dX4_isEndRead_101 rfl rfl ?_
            refine r_iconst (pc := 102) dX4_isEndRead_102 ci_3 ?_
            refine r_putI (pc := 103) (i := 8) fpRX4_56 nLX_8 kLX_8 (by decide) rfl rfl dX4_isEndRead_103 ?_
            refine g_bm h (fun m1 em1 h => ?_)
            refine r_goto (pc := 106) 111 dX4_isEndRead_106 (by decide) ?_
            refine r_sub [0] rfl ?_
            exact gX4_isEndRead_111 E m1 h
        · refine r_aload_n (pc := 84) 0 dX4_isEndRead_84 rfl rfl ?_
          refine r_iconst (pc := 85) dX4_isEndRead_85 ci_2 ?_
          refine r_putI (pc := 86) (i := 8) fpRX4_56 nLX_8 kLX_8 (by decide) rfl rfl dX4_isEndRead_86 ?_
          refine g_bm h (fun m2 em2 h => ?_)
          refine r_goto (pc := 89) 111 dX4_isEndRead_89 (by decide) ?_
          refine r_sub [0] rfl ?_
          exact gX4_isEndRead_111 E m2 h
      · refine r_aload_n (pc := 67) 0 dX4_isEndRead_67 rfl rfl ?_
        refine r_iconst (pc := 68) dX4_isEndRead_68 ci_1 ?_
        refine r_putI (pc := 69) (i := 8) fpRX4_56 nLX_8 kLX_8 (by decide) rfl rfl dX4_isEndRead_69 ?_
        refine g_bm h (fun m3 em3 h => ?_)
        refine r_goto (pc := 72) 111 dX4_isEndRead_72 (by decide) ?_
        refine r_sub [0] rfl ?_
        exact gX4_isEndRead_111 E m3 h
    · refine r_aload_n (pc := 50) 0 dX4_isEndRead_50 rfl rfl ?_
      refine r_iconst (pc := 51) dX4_isEndRead_51 ci_0 ?_
      refine r_putI (pc := 52) (i := 8) fpRX4_56 nLX_8 kLX_8 (by decide) rfl rfl dX4_isEndRead_52 ?_
      refine g_bm h (fun m4 em4 h => ?_)
      refine r_goto (pc := 55) 111 dX4_isEndRead_55 (by decide) ?_
      refine r_sub [0] rfl ?_
      exact gX4_isEndRead_111 E m4 h
  · refine r_aload_n (pc := 9) 0 dX4_isEndRead_9 rfl rfl ?_
    refine bo_k h (fun z6 hz6 h => ?_)
    refine r_callV (pc := 10) (i := 8) (As := []) (rest := []) lkRX4_19 (ceX4_toNextWord _ _ σ hz6) nLX_8 kLX_8 (by decide) rfl ⟨Nat.le_of_ble_eq_true rfl, Nat.le_of_ble_eq_true rfl⟩ rfl rfl (Nat.le_of_ble_eq_true rfl) dX4_isEndRead_10 rfl ?_
    refine r_aload_n (pc := 13) 0 dX4_isEndRead_13 rfl rfl ?_
    refine bo_k h (fun z7 hz7 h => ?_)
    refine r_callV (pc := 14) (i := 8) (As := []) (rest := []) lkRX4_22 (ceX4_number _ _ z6 hz7) nLX_8 kLX_8 (by decide) rfl ⟨Nat.le_of_ble_eq_true rfl, Nat.le_of_ble_eq_true rfl⟩ rfl rfl (Nat.le_of_ble_eq_true rfl) dX4_isEndRead_14 rfl ?_
    refine r_istore_n (pc := 17) (lv' := [(2, .int z7), (0, .ref (xa E 8)), (1, .int v1)]) dX4_isEndRead_17 rfl (Nat.le_of_ble_eq_true rfl) rfl ?_
    refine r_iload_n (pc := 18) 0 dX4_isEndRead_18 rfl rfl ?_
    refine r_iconst (pc := 19) dX4_isEndRead_19 ci_0 ?_
    refine r_iload_n (pc := 20) 2 dX4_isEndRead_20 rfl rfl ?_
    refine r_iconst (pc := 21) dX4_isEndRead_21 ci_1 ?_
    refine r_isub (pc := 22) dX4_isEndRead_22 ?_
    refine r_callS (pc := 23) (As := [.int z7, .int 0, .int (v1 - 1)]) (rest := []) lkRX4_29 (ceX9_isWithin _ _ z6 z7 0 (v1 - 1) rfl) ⟨Nat.le_of_ble_eq_true rfl, Nat.le_of_ble_eq_true rfl⟩ rfl rfl (Nat.le_of_ble_eq_true rfl) dX4_isEndRead_23 rfl ?_
    refine r_if_ne (pc := 26) 31 dX4_isEndRead_26 (by decide) h (fun c6 h => ?_) (fun c6 h => ?_)
    · refine r_iconst (pc := 29) dX4_isEndRead_29 ci_0 ?_
      exact r_zretW (pc := 30) rfl rfl dX4_isEndRead_30 h
    · refine r_aload_n (pc := 31) 1 dX4_isEndRead_31 rfl rfl ?_
      refine r_iconst (pc := 32) dX4_isEndRead_32 ci_4 ?_
      refine r_iload_n (pc := 33) 0 dX4_isEndRead_33 rfl rfl ?_
      refine r_iadd (pc := 34) dX4_isEndRead_34 ?_
      refine r_putI (pc := 35) (i := 8) fpRX4_56 nLX_8 kLX_8 (by decide) rfl rfl dX4_isEndRead_35 ?_
      refine g_bm h (fun m5 em5 h => ?_)
      refine r_goto (pc := 38) 111 dX4_isEndRead_38 (by decide) ?_
      refine r_sub [1] rfl ?_
      exact gX4_isEndRead_111 E m5 h
theorem ceX4_isEndRead (l : Launch) (d : SD) (σ : Mem) (v1 : Int32)  {r : Int32 × Mem} (h : fX4_isEndRead σ v1 = some r) : Me l d LX yX4_isEndRead qX4_isEndRead σ [.ref (d.2.2.1 8), .int v1] (some r.1, r.2) := me_of (avs := fun d => [.ref (d.2.2.1 8), .int v1]) (by decide) rfl (Nat.le_of_ble_eq_true rfl) (fun E => gX4_isEndRead E σ v1  h)
def fX4_areYearsRead_112  (σ : Mem) (t1 : Int32) : Option (Int32 × Mem) :=
  bm (mset σ 8 7 t1) (fun m1 =>
  if m1 8 7 = 1 then
    (bo (fX4_toNextWord m1) (fun z1 =>
    some (1, z1)))
  else
    (some (1, m1)))
set_option maxHeartbeats 4000000 in
set_option maxRecDepth 20000 in
theorem gX4_areYearsRead_112 (E : XE)  {r : Int32 × Mem}  (σ : Mem) (t1 : Int32)  (h : fX4_areYearsRead_112 σ t1 = some r) : G E LX qX4_areYearsRead σ 112 [(0, .ref (xa E 8))] [.int t1, .ref (xa E 8)] (some r.1, r.2) := by
  unfold fX4_areYearsRead_112 at h
  refine r_putI (pc := 112) (i := 8) fpRX4_77 nLX_8 kLX_8 (by decide) rfl rfl dX4_areYearsRead_112 ?_
  refine g_bm h (fun m1 em1 h => ?_)
  refine r_aload_n (pc := 115) 0 dX4_areYearsRead_115 rfl rfl ?_
  refine r_getI (pc := 116) (i := 8) fdRX4_77 nLX_8 kLX_8 (by decide) dX4_areYearsRead_116 ?_
  refine r_iconst (pc := 119) dX4_areYearsRead_119 ci_1 ?_
  refine r_icmp_ne (pc := 120) 127 dX4_areYearsRead_120 (by decide) h (fun c1 h => ?_) (fun c1 h => ?_)
  · refine r_aload_n (pc := 123) 0 dX4_areYearsRead_123 rfl rfl ?_
    refine bo_k h (fun z1 hz1 h => ?_)
    refine r_callV (pc := 124) (i := 8) (As := []) (rest := []) lkRX4_19 (ceX4_toNextWord _ _ m1 hz1) nLX_8 kLX_8 (by decide) rfl ⟨Nat.le_of_ble_eq_true rfl, Nat.le_of_ble_eq_true rfl⟩ rfl rfl (Nat.le_of_ble_eq_true rfl) dX4_areYearsRead_124 rfl ?_
    refine r_iconst (pc := 127) dX4_areYearsRead_127 ci_1 ?_
    exact r_zretW (pc := 128) rfl rfl dX4_areYearsRead_128 h
  · refine r_iconst (pc := 127) dX4_areYearsRead_127 ci_1 ?_
    exact r_zretW (pc := 128) rfl rfl dX4_areYearsRead_128 h
def fX4_areYearsRead_97  (σ : Mem)  : Option (Int32 × Mem) :=
  bo (fX4_isWord σ 8) (fun z1 =>
  if z1 = 0 then
    (fX4_areYearsRead_112 σ 0)
  else
    (fX4_areYearsRead_112 σ 1))
set_option maxHeartbeats 4000000 in
set_option maxRecDepth 20000 in
theorem gX4_areYearsRead_97 (E : XE)  {r : Int32 × Mem}  (σ : Mem)   (h : fX4_areYearsRead_97 σ = some r) : G E LX qX4_areYearsRead σ 97 [(0, .ref (xa E 8))] [] (some r.1, r.2) := by
  unfold fX4_areYearsRead_97 at h
  refine r_aload_n (pc := 97) 0 dX4_areYearsRead_97 rfl rfl ?_
  refine r_aload_n (pc := 98) 0 dX4_areYearsRead_98 rfl rfl ?_
  refine r_ldcS (pc := 99) (j := 8) (by decide) rfl rfl dX4_areYearsRead_99 ?_
  refine bo_k h (fun z1 hz1 h => ?_)
  refine r_callV (pc := 101) (i := 8) (As := [.ref (xs E 8)]) (rest := [.ref (xa E 8)]) lkRX4_35 (ceX4_isWord _ _ σ 8 (by decide) hz1) nLX_8 kLX_8 (by decide) rfl ⟨Nat.le_of_ble_eq_true rfl, Nat.le_of_ble_eq_true rfl⟩ rfl rfl (Nat.le_of_ble_eq_true rfl) dX4_areYearsRead_101 rfl ?_
  refine r_if_eq (pc := 104) 111 dX4_areYearsRead_104 (by decide) h (fun c1 h => ?_) (fun c1 h => ?_)
  · refine r_iconst (pc := 111) dX4_areYearsRead_111 ci_0 ?_
    exact gX4_areYearsRead_112 E σ 0 h
  · refine r_iconst (pc := 107) dX4_areYearsRead_107 ci_1 ?_
    refine r_goto (pc := 108) 112 dX4_areYearsRead_108 (by decide) ?_
    exact gX4_areYearsRead_112 E σ 1 h
def fX4_areYearsRead_53  (σ : Mem)  : Option (Int32 × Mem) :=
  bo (fX4_isWord σ 7) (fun z1 =>
  if z1 = 0 then
    (fX4_areYearsRead_97 σ)
  else
    (bo (fX4_toNextWord σ) (fun z2 =>
    bo (fX4_number z2) (fun z3 =>
    bm (mset z2 8 6 z3) (fun m1 =>
    if fX9_isWithin m1 (m1 8 6) (m1 8 5) 200 = 0 then
      (some (0, m1))
    else
      (bo (fX4_toNextWord m1) (fun z4 =>
      fX4_areYearsRead_97 z4)))))))
set_option maxHeartbeats 4000000 in
set_option maxRecDepth 20000 in
theorem gX4_areYearsRead_53 (E : XE)  {r : Int32 × Mem}  (σ : Mem)   (h : fX4_areYearsRead_53 σ = some r) : G E LX qX4_areYearsRead σ 53 [(0, .ref (xa E 8))] [] (some r.1, r.2) := by
  unfold fX4_areYearsRead_53 at h
  refine r_aload_n (pc := 53) 0 dX4_areYearsRead_53 rfl rfl ?_
  refine r_ldcS (pc := 54) (j := 7) (by decide) rfl rfl dX4_areYearsRead_54 ?_
  refine bo_k h (fun z1 hz1 h => ?_)
  refine r_callV (pc := 56) (i := 8) (As := [.ref (xs E 7)]) (rest := []) lkRX4_35 (ceX4_isWord _ _ σ 7 (by decide) hz1) nLX_8 kLX_8 (by decide) rfl ⟨Nat.le_of_ble_eq_true rfl, Nat.le_of_ble_eq_true rfl⟩ rfl rfl (Nat.le_of_ble_eq_true rfl) dX4_areYearsRead_56 rfl ?_
  refine r_if_eq (pc := 59) 97 dX4_areYearsRead_59 (by decide) h (fun c1 h => ?_) (fun c1 h => ?_)
  · exact gX4_areYearsRead_97 E σ h
  · refine r_aload_n (pc := 62) 0 dX4_areYearsRead_62 rfl rfl ?_
    refine bo_k h (fun z2 hz2 h => ?_)
    refine r_callV (pc := 63) (i := 8) (As := []) (rest := []) lkRX4_19 (ceX4_toNextWord _ _ σ hz2) nLX_8 kLX_8 (by decide) rfl ⟨Nat.le_of_ble_eq_true rfl, Nat.le_of_ble_eq_true rfl⟩ rfl rfl (Nat.le_of_ble_eq_true rfl) dX4_areYearsRead_63 rfl ?_
    refine r_aload_n (pc := 66) 0 dX4_areYearsRead_66 rfl rfl ?_
    refine r_aload_n (pc := 67) 0 dX4_areYearsRead_67 rfl rfl ?_
    refine bo_k h (fun z3 hz3 h => ?_)
    refine r_callV (pc := 68) (i := 8) (As := []) (rest := [.ref (xa E 8)]) lkRX4_22 (ceX4_number _ _ z2 hz3) nLX_8 kLX_8 (by decide) rfl ⟨Nat.le_of_ble_eq_true rfl, Nat.le_of_ble_eq_true rfl⟩ rfl rfl (Nat.le_of_ble_eq_true rfl) dX4_areYearsRead_68 rfl ?_
    refine r_putI (pc := 71) (i := 8) fpRX4_70 nLX_8 kLX_8 (by decide) rfl rfl dX4_areYearsRead_71 ?_
    refine g_bm h (fun m1 em1 h => ?_)
    refine r_aload_n (pc := 74) 0 dX4_areYearsRead_74 rfl rfl ?_
    refine r_getI (pc := 75) (i := 8) fdRX4_70 nLX_8 kLX_8 (by decide) dX4_areYearsRead_75 ?_
    refine r_aload_n (pc := 78) 0 dX4_areYearsRead_78 rfl rfl ?_
    refine r_getI (pc := 79) (i := 8) fdRX4_67 nLX_8 kLX_8 (by decide) dX4_areYearsRead_79 ?_
    refine r_sipush (pc := 82) dX4_areYearsRead_82 cs_200 ?_
    refine r_callS (pc := 85) (As := [.int (m1 8 6), .int (m1 8 5), .int 200]) (rest := []) lkRX4_29 (ceX9_isWithin _ _ m1 (m1 8 6) (m1 8 5) 200 rfl) ⟨Nat.le_of_ble_eq_true rfl, Nat.le_of_ble_eq_true rfl⟩ rfl rfl (Nat.le_of_ble_eq_true rfl) dX4_areYearsRead_85 rfl ?_
    refine r_if_ne (pc := 88) 93 dX4_areYearsRead_88 (by decide) h (fun c2 h => ?_) (fun c2 h => ?_)
    · refine r_iconst (pc := 91) dX4_areYearsRead_91 ci_0 ?_
      exact r_zretW (pc := 92) rfl rfl dX4_areYearsRead_92 h
    · refine r_aload_n (pc := 93) 0 dX4_areYearsRead_93 rfl rfl ?_
      refine bo_k h (fun z4 hz4 h => ?_)
      refine r_callV (pc := 94) (i := 8) (As := []) (rest := []) lkRX4_19 (ceX4_toNextWord _ _ m1 hz4) nLX_8 kLX_8 (by decide) rfl ⟨Nat.le_of_ble_eq_true rfl, Nat.le_of_ble_eq_true rfl⟩ rfl rfl (Nat.le_of_ble_eq_true rfl) dX4_areYearsRead_94 rfl ?_
      exact gX4_areYearsRead_97 E z4 h
def fX4_areYearsRead (σ : Mem) (v1 : Int32) : Option (Int32 × Mem) :=
  bm (mset σ 8 5 v1) (fun m1 =>
  bm (mset m1 8 6 200) (fun m2 =>
  bo (fX4_isWord m2 6) (fun z1 =>
  if z1 = 0 then
    (fX4_areYearsRead_53 m2)
  else
    (bo (fX4_toNextWord m2) (fun z2 =>
    bo (fX4_number z2) (fun z3 =>
    bm (mset z2 8 5 z3) (fun m3 =>
    if fX9_isWithin m3 (m3 8 5) 0 200 = 0 then
      (some (0, m3))
    else
      (bo (fX4_toNextWord m3) (fun z4 =>
      fX4_areYearsRead_53 z4)))))))))
set_option maxHeartbeats 4000000 in
set_option maxRecDepth 20000 in
theorem gX4_areYearsRead (E : XE) {r : Int32 × Mem} (σ : Mem) (v1 : Int32)  (h : fX4_areYearsRead σ v1 = some r) : G E LX qX4_areYearsRead σ 0 [(0, .ref (xa E 8)), (1, .int v1)] [] (some r.1, r.2) := by
  unfold fX4_areYearsRead at h
  refine r_aload_n (pc := 0) 0 dX4_areYearsRead_0 rfl rfl ?_
  refine r_iload_n (pc := 1) 1 dX4_areYearsRead_1 rfl rfl ?_
  refine r_putI (pc := 2) (i := 8) fpRX4_67 nLX_8 kLX_8 (by decide) rfl rfl dX4_areYearsRead_2 ?_
  refine g_bm h (fun m1 em1 h => ?_)
  refine r_aload_n (pc := 5) 0 dX4_areYearsRead_5 rfl rfl ?_
  refine r_sipush (pc := 6) dX4_areYearsRead_6 cs_200 ?_
  refine r_putI (pc := 9) (i := 8) fpRX4_70 nLX_8 kLX_8 (by decide) rfl rfl dX4_areYearsRead_9 ?_
  refine g_bm h (fun m2 em2 h => ?_)
  refine r_aload_n (pc := 12) 0 dX4_areYearsRead_12 rfl rfl ?_
  refine r_ldcS (pc := 13) (j := 6) (by decide) rfl rfl dX4_areYearsRead_13 ?_
  refine bo_k h (fun z1 hz1 h => ?_)
  refine r_callV (pc := 15) (i := 8) (As := [.ref (xs E 6)]) (rest := []) lkRX4_35 (ceX4_isWord _ _ m2 6 (by decide) hz1) nLX_8 kLX_8 (by decide) rfl ⟨Nat.le_of_ble_eq_true rfl, Nat.le_of_ble_eq_true rfl⟩ rfl rfl (Nat.le_of_ble_eq_true rfl) dX4_areYearsRead_15 rfl ?_
  refine r_if_eq (pc := 18) 53 dX4_areYearsRead_18 (by decide) h (fun c1 h => ?_) (fun c1 h => ?_)
  · refine r_sub [0] rfl ?_
    exact gX4_areYearsRead_53 E m2 h
  · refine r_aload_n (pc := 21) 0 dX4_areYearsRead_21 rfl rfl ?_
    refine bo_k h (fun z2 hz2 h => ?_)
    refine r_callV (pc := 22) (i := 8) (As := []) (rest := []) lkRX4_19 (ceX4_toNextWord _ _ m2 hz2) nLX_8 kLX_8 (by decide) rfl ⟨Nat.le_of_ble_eq_true rfl, Nat.le_of_ble_eq_true rfl⟩ rfl rfl (Nat.le_of_ble_eq_true rfl) dX4_areYearsRead_22 rfl ?_
    refine r_aload_n (pc := 25) 0 dX4_areYearsRead_25 rfl rfl ?_
    refine r_aload_n (pc := 26) 0 dX4_areYearsRead_26 rfl rfl ?_
    refine bo_k h (fun z3 hz3 h => ?_)
    refine r_callV (pc := 27) (i := 8) (As := []) (rest := [.ref (xa E 8)]) lkRX4_22 (ceX4_number _ _ z2 hz3) nLX_8 kLX_8 (by decide) rfl ⟨Nat.le_of_ble_eq_true rfl, Nat.le_of_ble_eq_true rfl⟩ rfl rfl (Nat.le_of_ble_eq_true rfl) dX4_areYearsRead_27 rfl ?_
    refine r_putI (pc := 30) (i := 8) fpRX4_67 nLX_8 kLX_8 (by decide) rfl rfl dX4_areYearsRead_30 ?_
    refine g_bm h (fun m3 em3 h => ?_)
    refine r_aload_n (pc := 33) 0 dX4_areYearsRead_33 rfl rfl ?_
    refine r_getI (pc := 34) (i := 8) fdRX4_67 nLX_8 kLX_8 (by decide) dX4_areYearsRead_34 ?_
    refine r_iconst (pc := 37) dX4_areYearsRead_37 ci_0 ?_
    refine r_sipush (pc := 38) dX4_areYearsRead_38 cs_200 ?_
    refine r_callS (pc := 41) (As := [.int (m3 8 5), .int 0, .int 200]) (rest := []) lkRX4_29 (ceX9_isWithin _ _ m3 (m3 8 5) 0 200 rfl) ⟨Nat.le_of_ble_eq_true rfl, Nat.le_of_ble_eq_true rfl⟩ rfl rfl (Nat.le_of_ble_eq_true rfl) dX4_areYearsRead_41 rfl ?_
    refine r_if_ne (pc := 44) 49 dX4_areYearsRead_44 (by decide) h (fun c2 h => ?_) (fun c2 h => ?_)
    · refine r_iconst (pc := 47) dX4_areYearsRead_47 ci_0 ?_
      exact r_zretW (pc := 48) rfl rfl dX4_areYearsRead_48 h
    · refine r_aload_n (pc := 49) 0 dX4_areYearsRead_49 rfl rfl ?_
      refine bo_k h (fun z4 hz4 h => ?_)
      refine r_callV (pc := 50) (i := 8) (As := []) (rest := []) lkRX4_19 (ceX4_toNextWord _ _ m3 hz4) nLX_8 kLX_8 (by decide) rfl ⟨Nat.le_of_ble_eq_true rfl, Nat.le_of_ble_eq_true rfl⟩ rfl rfl (Nat.le_of_ble_eq_true rfl) dX4_areYearsRead_50 rfl ?_
      refine r_sub [0] rfl ?_
      exact gX4_areYearsRead_53 E z4 h
theorem ceX4_areYearsRead (l : Launch) (d : SD) (σ : Mem) (v1 : Int32)  {r : Int32 × Mem} (h : fX4_areYearsRead σ v1 = some r) : Me l d LX yX4_areYearsRead qX4_areYearsRead σ [.ref (d.2.2.1 8), .int v1] (some r.1, r.2) := me_of (avs := fun d => [.ref (d.2.2.1 8), .int v1]) (by decide) rfl (Nat.le_of_ble_eq_true rfl) (fun E => gX4_areYearsRead E σ v1  h)
def fX4_isGift (σ : Mem) (v1 : Int32) (v2 : Int32) : Option (Int32 × Mem) :=
  bm (mset σ 8 2 0) (fun m1 =>
  bo (fX4_toNextWord m1) (fun z1 =>
  bo (fX4_number z1) (fun z2 =>
  bm (mset z1 8 3 z2) (fun m2 =>
  if fX9_isWithin m2 (m2 8 3) 1 9999 = 0 then
    (some (0, m2))
  else
    (bo (fX4_toNextWord m2) (fun z3 =>
    bo (fX4_isWord z3 0) (fun z4 =>
    if z4 = 0 then
      (some (0, z3))
    else
      (bo (fX4_toNextWord z3) (fun z5 =>
      bo (fX4_isEndRead z5 v1) (fun z6 =>
      if z6.1 = 0 then
        (some (0, z6.2))
      else
        (bo (fX4_areYearsRead z6.2 v2) (fun z7 =>
        if z7.1 = 0 then
          (some (0, z7.2))
        else
          (if z7.2 8 1 = z7.2 6 1 then
            (some (1, z7.2))
          else
            (some (0, z7.2)))))))))))))))
set_option maxHeartbeats 4000000 in
set_option maxRecDepth 20000 in
theorem gX4_isGift (E : XE) {r : Int32 × Mem} (σ : Mem) (v1 : Int32) (v2 : Int32)  (h : fX4_isGift σ v1 v2 = some r) : G E LX qX4_isGift σ 0 [(0, .ref (xa E 8)), (1, .int v1), (2, .int v2)] [] (some r.1, r.2) := by
  unfold fX4_isGift at h
  refine r_aload_n (pc := 0) 0 dX4_isGift_0 rfl rfl ?_
  refine r_iconst (pc := 1) dX4_isGift_1 ci_0 ?_
  refine r_putI (pc := 2) (i := 8) fpRX4_15 nLX_8 kLX_8 (by decide) rfl rfl dX4_isGift_2 ?_
  refine g_bm h (fun m1 em1 h => ?_)
  refine r_aload_n (pc := 5) 0 dX4_isGift_5 rfl rfl ?_
  refine bo_k h (fun z1 hz1 h => ?_)
  refine r_callV (pc := 6) (i := 8) (As := []) (rest := []) lkRX4_19 (ceX4_toNextWord _ _ m1 hz1) nLX_8 kLX_8 (by decide) rfl ⟨Nat.le_of_ble_eq_true rfl, Nat.le_of_ble_eq_true rfl⟩ rfl rfl (Nat.le_of_ble_eq_true rfl) dX4_isGift_6 rfl ?_
  refine r_aload_n (pc := 9) 0 dX4_isGift_9 rfl rfl ?_
  refine r_aload_n (pc := 10) 0 dX4_isGift_10 rfl rfl ?_
  refine bo_k h (fun z2 hz2 h => ?_)
  refine r_callV (pc := 11) (i := 8) (As := []) (rest := [.ref (xa E 8)]) lkRX4_22 (ceX4_number _ _ z1 hz2) nLX_8 kLX_8 (by decide) rfl ⟨Nat.le_of_ble_eq_true rfl, Nat.le_of_ble_eq_true rfl⟩ rfl rfl (Nat.le_of_ble_eq_true rfl) dX4_isGift_11 rfl ?_
  refine r_putI (pc := 14) (i := 8) fpRX4_26 nLX_8 kLX_8 (by decide) rfl rfl dX4_isGift_14 ?_
  refine g_bm h (fun m2 em2 h => ?_)
  refine r_aload_n (pc := 17) 0 dX4_isGift_17 rfl rfl ?_
  refine r_getI (pc := 18) (i := 8) fdRX4_26 nLX_8 kLX_8 (by decide) dX4_isGift_18 ?_
  refine r_iconst (pc := 21) dX4_isGift_21 ci_1 ?_
  refine r_sipush (pc := 22) dX4_isGift_22 cs_9999 ?_
  refine r_callS (pc := 25) (As := [.int (m2 8 3), .int 1, .int 9999]) (rest := []) lkRX4_29 (ceX9_isWithin _ _ m2 (m2 8 3) 1 9999 rfl) ⟨Nat.le_of_ble_eq_true rfl, Nat.le_of_ble_eq_true rfl⟩ rfl rfl (Nat.le_of_ble_eq_true rfl) dX4_isGift_25 rfl ?_
  refine r_if_ne (pc := 28) 33 dX4_isGift_28 (by decide) h (fun c1 h => ?_) (fun c1 h => ?_)
  · refine r_iconst (pc := 31) dX4_isGift_31 ci_0 ?_
    exact r_zretW (pc := 32) rfl rfl dX4_isGift_32 h
  · refine r_aload_n (pc := 33) 0 dX4_isGift_33 rfl rfl ?_
    refine bo_k h (fun z3 hz3 h => ?_)
    refine r_callV (pc := 34) (i := 8) (As := []) (rest := []) lkRX4_19 (ceX4_toNextWord _ _ m2 hz3) nLX_8 kLX_8 (by decide) rfl ⟨Nat.le_of_ble_eq_true rfl, Nat.le_of_ble_eq_true rfl⟩ rfl rfl (Nat.le_of_ble_eq_true rfl) dX4_isGift_34 rfl ?_
    refine r_aload_n (pc := 37) 0 dX4_isGift_37 rfl rfl ?_
    refine r_ldcS (pc := 38) (j := 0) (by decide) rfl rfl dX4_isGift_38 ?_
    refine bo_k h (fun z4 hz4 h => ?_)
    refine r_callV (pc := 40) (i := 8) (As := [.ref (xs E 0)]) (rest := []) lkRX4_35 (ceX4_isWord _ _ z3 0 (by decide) hz4) nLX_8 kLX_8 (by decide) rfl ⟨Nat.le_of_ble_eq_true rfl, Nat.le_of_ble_eq_true rfl⟩ rfl rfl (Nat.le_of_ble_eq_true rfl) dX4_isGift_40 rfl ?_
    refine r_if_ne (pc := 43) 48 dX4_isGift_43 (by decide) h (fun c2 h => ?_) (fun c2 h => ?_)
    · refine r_iconst (pc := 46) dX4_isGift_46 ci_0 ?_
      exact r_zretW (pc := 47) rfl rfl dX4_isGift_47 h
    · refine r_aload_n (pc := 48) 0 dX4_isGift_48 rfl rfl ?_
      refine bo_k h (fun z5 hz5 h => ?_)
      refine r_callV (pc := 49) (i := 8) (As := []) (rest := []) lkRX4_19 (ceX4_toNextWord _ _ z3 hz5) nLX_8 kLX_8 (by decide) rfl ⟨Nat.le_of_ble_eq_true rfl, Nat.le_of_ble_eq_true rfl⟩ rfl rfl (Nat.le_of_ble_eq_true rfl) dX4_isGift_49 rfl ?_
      refine r_aload_n (pc := 52) 0 dX4_isGift_52 rfl rfl ?_
      refine r_iload_n (pc := 53) 1 dX4_isGift_53 rfl rfl ?_
      refine bo_k h (fun z6 hz6 h => ?_)
      refine r_callV (pc := 54) (i := 8) (As := [.int v1]) (rest := []) lkRX4_39 (ceX4_isEndRead _ _ z5 v1 hz6) nLX_8 kLX_8 (by decide) rfl ⟨Nat.le_of_ble_eq_true rfl, Nat.le_of_ble_eq_true rfl⟩ rfl rfl (Nat.le_of_ble_eq_true rfl) dX4_isGift_54 rfl ?_
      refine r_if_eq (pc := 57) 86 dX4_isGift_57 (by decide) h (fun c3 h => ?_) (fun c3 h => ?_)
      · refine r_iconst (pc := 86) dX4_isGift_86 ci_0 ?_
        exact r_zretW (pc := 87) rfl rfl dX4_isGift_87 h
      · refine r_aload_n (pc := 60) 0 dX4_isGift_60 rfl rfl ?_
        refine r_iload_n (pc := 61) 2 dX4_isGift_61 rfl rfl ?_
        refine bo_k h (fun z7 hz7 h => ?_)
        refine r_callV (pc := 62) (i := 8) (As := [.int v2]) (rest := []) lkRX4_43 (ceX4_areYearsRead _ _ z6.2 v2 hz7) nLX_8 kLX_8 (by decide) rfl ⟨Nat.le_of_ble_eq_true rfl, Nat.le_of_ble_eq_true rfl⟩ rfl rfl (Nat.le_of_ble_eq_true rfl) dX4_isGift_62 rfl ?_
        refine r_if_eq (pc := 65) 86 dX4_isGift_65 (by decide) h (fun c4 h => ?_) (fun c4 h => ?_)
        · refine r_iconst (pc := 86) dX4_isGift_86 ci_0 ?_
          exact r_zretW (pc := 87) rfl rfl dX4_isGift_87 h
        · refine r_aload_n (pc := 68) 0 dX4_isGift_68 rfl rfl ?_
          refine r_getI (pc := 69) (i := 8) fdRX4_46 nLX_8 kLX_8 (by decide) dX4_isGift_69 ?_
          refine r_aload_n (pc := 72) 0 dX4_isGift_72 rfl rfl ?_
          refine r_getR (pc := 73) (i := 8) (j := 6) fdRX4_9 nLX_8 kLX_8 (by decide) rfl dX4_isGift_73 ?_
          refine r_getI (pc := 76) (i := 6) fdRX4_49 nLX_6 kLX_6 (by decide) dX4_isGift_76 ?_
          refine r_icmp_ne (pc := 79) 86 dX4_isGift_79 (by decide) h (fun c5 h => ?_) (fun c5 h => ?_)
          · refine r_iconst (pc := 82) dX4_isGift_82 ci_1 ?_
            refine r_goto (pc := 83) 87 dX4_isGift_83 (by decide) ?_
            exact r_zretW (pc := 87) rfl rfl dX4_isGift_87 h
          · refine r_iconst (pc := 86) dX4_isGift_86 ci_0 ?_
            exact r_zretW (pc := 87) rfl rfl dX4_isGift_87 h
theorem ceX4_isGift (l : Launch) (d : SD) (σ : Mem) (v1 : Int32) (v2 : Int32)  {r : Int32 × Mem} (h : fX4_isGift σ v1 v2 = some r) : Me l d LX yX4_isGift qX4_isGift σ [.ref (d.2.2.1 8), .int v1, .int v2] (some r.1, r.2) := me_of (avs := fun d => [.ref (d.2.2.1 8), .int v1, .int v2]) (by decide) rfl (Nat.le_of_ble_eq_true rfl) (fun E => gX4_isGift E σ v1 v2  h)
