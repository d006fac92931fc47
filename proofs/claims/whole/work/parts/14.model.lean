def fX10_isIn (σ : Mem) (v0 : Int32) (v1 : Int32) (v2 : Int32) : Int32 :=
  if v0 < v1 then
    (0)
  else
    (if v2 < v0 then
      (0)
    else
      (1))
set_option maxHeartbeats 4000000 in
set_option maxRecDepth 20000 in
theorem gX10_isIn (E : XE) {r : Int32} (σ : Mem) (v0 : Int32) (v1 : Int32) (v2 : Int32)  (h : fX10_isIn σ v0 v1 v2 = r) : G E LM qX10_isIn σ 0 [(0, .int v0), (1, .int v1), (2, .int v2)] [] (some r, σ) := by
  unfold fX10_isIn at h
  refine r_iload_n (pc := 0) 0 dX10_isIn_0 rfl rfl ?_
  refine r_iload_n (pc := 1) 1 dX10_isIn_1 rfl rfl ?_
  refine r_icmp_lt (pc := 2) 14 dX10_isIn_2 (by decide) h (fun c1 h => ?_) (fun c1 h => ?_)
  · refine r_iconst (pc := 14) dX10_isIn_14 ci_0 ?_
    exact r_zret (pc := 15) rfl rfl dX10_isIn_15 h rfl
  · refine r_iload_n (pc := 5) 0 dX10_isIn_5 rfl rfl ?_
    refine r_iload_n (pc := 6) 2 dX10_isIn_6 rfl rfl ?_
    refine r_icmp_gt (pc := 7) 14 dX10_isIn_7 (by decide) h (fun c2 h => ?_) (fun c2 h => ?_)
    · refine r_iconst (pc := 14) dX10_isIn_14 ci_0 ?_
      exact r_zret (pc := 15) rfl rfl dX10_isIn_15 h rfl
    · refine r_iconst (pc := 10) dX10_isIn_10 ci_1 ?_
      refine r_goto (pc := 11) 15 dX10_isIn_11 (by decide) ?_
      exact r_zret (pc := 15) rfl rfl dX10_isIn_15 h rfl
theorem ceX10_isIn (l : Launch) (d : SD) (σ : Mem) (v0 : Int32) (v1 : Int32) (v2 : Int32)  {r : Int32} (h : fX10_isIn σ v0 v1 v2 = r) : Me l d LM yX10_isIn qX10_isIn σ [.int v0, .int v1, .int v2] (some r, σ) := me_of (avs := fun d => [.int v0, .int v1, .int v2]) (by decide) rfl (Nat.le_of_ble_eq_true rfl) (fun E => gX10_isIn E σ v0 v1 v2  h)
theorem nbX10_isIn {σ : Mem} {v0 : Int32} {v1 : Int32} {v2 : Int32} : narrow .boolean (.int (fX10_isIn σ v0 v1 v2)) = .int (fX10_isIn σ v0 v1 v2) := by
  unfold fX10_isIn
  repeat' split
  all_goals rfl
def fX10_isArch (σ : Mem) (v1 : Int32) : Int32 :=
  fX10_isIn σ v1 0 ((σ 0 1) - 1)
set_option maxHeartbeats 4000000 in
set_option maxRecDepth 20000 in
theorem gX10_isArch (E : XE) {r : Int32} (σ : Mem) (v1 : Int32)  (h : fX10_isArch σ v1 = r) : G E LM qX10_isArch σ 0 [(0, .ref (xa E 0)), (1, .int v1)] [] (some r, σ) := by
  unfold fX10_isArch at h
  refine r_iload_n (pc := 0) 1 dX10_isArch_0 rfl rfl ?_
  refine r_iconst (pc := 1) dX10_isArch_1 ci_0 ?_
  refine r_aload_n (pc := 2) 0 dX10_isArch_2 rfl rfl ?_
  refine r_getI (pc := 3) (i := 0) fdRX10_96 nLM_0 kLM_0 (by decide) dX10_isArch_3 ?_
  refine r_iconst (pc := 6) dX10_isArch_6 ci_1 ?_
  refine r_isub (pc := 7) dX10_isArch_7 ?_
  refine r_callS (pc := 8) (As := [.int v1, .int 0, .int ((σ 0 1) - 1)]) (rest := []) lkRX10_99 (ceX10_isIn _ _ σ v1 0 ((σ 0 1) - 1) rfl) ⟨Nat.le_of_ble_eq_true rfl, Nat.le_of_ble_eq_true rfl⟩ rfl rfl (Nat.le_of_ble_eq_true rfl) dX10_isArch_8 rfl ?_
  exact r_zret (pc := 11) rfl (nbX10_isIn) dX10_isArch_11 h rfl
theorem ceX10_isArch (l : Launch) (d : SD) (σ : Mem) (v1 : Int32)  {r : Int32} (h : fX10_isArch σ v1 = r) : Me l d LM yX10_isArch qX10_isArch σ [.ref (d.2.2.1 0), .int v1] (some r, σ) := me_of (avs := fun d => [.ref (d.2.2.1 0), .int v1]) (by decide) rfl (Nat.le_of_ble_eq_true rfl) (fun E => gX10_isArch E σ v1  h)
theorem nbX10_isArch {σ : Mem} {v1 : Int32} : narrow .boolean (.int (fX10_isArch σ v1)) = .int (fX10_isArch σ v1) := by unfold fX10_isArch; exact nbX10_isIn
def fX10_told (σ : Mem) (v1 : Int32) (v2 : Int32) : Option Mem :=
  if inb ((7 * (σ 0 0)) + v1) 1407 = true then
  (if inb ((7 * (σ 0 0)) + v1) 1407 = true then
  (bm (mset σ 21 (((7 * (σ 0 0)) + v1).toNatClampNeg) ((σ 21 (((7 * (σ 0 0)) + v1).toNatClampNeg)) + v2)) (fun m1 =>
  some m1))
  else none)
  else none
set_option maxHeartbeats 4000000 in
set_option maxRecDepth 20000 in
theorem gX10_told (E : XE) {r : Mem} (σ : Mem) (v1 : Int32) (v2 : Int32)  (h : fX10_told σ v1 v2 = some r) : G E LM qX10_told σ 0 [(0, .ref (xa E 0)), (1, .int v1), (2, .int v2)] [] (none, r) := by
  unfold fX10_told at h
  refine r_aload_n (pc := 0) 0 dX10_told_0 rfl rfl ?_
  refine r_getR (pc := 1) (i := 0) (j := 21) fdRX10_71 nLM_0 kLM_0 (by decide) rfl dX10_told_1 ?_
  refine r_bipush (pc := 4) dX10_told_4 cb_7 ?_
  refine r_aload_n (pc := 6) 0 dX10_told_6 rfl rfl ?_
  refine r_getI (pc := 7) (i := 0) fdRX10_103 nLM_0 kLM_0 (by decide) dX10_told_7 ?_
  refine r_imul (pc := 10) dX10_told_10 ?_
  refine r_iload_n (pc := 11) 1 dX10_told_11 rfl rfl ?_
  refine r_iadd (pc := 12) dX10_told_12 ?_
  refine r_dup2 (pc := 13) dX10_told_13 rfl rfl ?_
  refine inb_k h (fun b1 h => ?_)
  refine r_iald (pc := 14) (i := 21) (((7 * (σ 0 0)) + v1).toNatClampNeg) rfl nLM_21 kLM_21 lLM_21 b1 dX10_told_14 ?_
  refine r_iload_n (pc := 15) 2 dX10_told_15 rfl rfl ?_
  refine r_iadd (pc := 16) dX10_told_16 ?_
  refine inb_k h (fun b2 h => ?_)
  refine r_iast (pc := 17) (i := 21) (((7 * (σ 0 0)) + v1).toNatClampNeg) ((σ 21 (((7 * (σ 0 0)) + v1).toNatClampNeg)) + v2) rfl rfl nLM_21 kLM_21 lLM_21 b2 dX10_told_17 ?_
  refine g_bm h (fun m1 em1 h => ?_)
  exact r_vret (pc := 18) rfl dX10_told_18 (Option.some.inj h)
theorem ceX10_told (l : Launch) (d : SD) (σ : Mem) (v1 : Int32) (v2 : Int32)  {r : Mem} (h : fX10_told σ v1 v2 = some r) : Me l d LM yX10_told qX10_told σ [.ref (d.2.2.1 0), .int v1, .int v2] (none, r) := me_of (avs := fun d => [.ref (d.2.2.1 0), .int v1, .int v2]) (by decide) rfl (Nat.le_of_ble_eq_true rfl) (fun E => gX10_told E σ v1 v2  h)
def fX10_arch (σ : Mem) (v1 : Int32) : Option (Int32 × Mem) :=
  if fX10_isIn σ v1 0 3 = 0 then
    (some ((-1000000001), σ))
  else
    (if σ 0 1 = 10 then
      (some ((-1000000003), σ))
    else
      (if inb (σ 0 1) 10 = true then
      (bm (mset σ 1 ((σ 0 1).toNatClampNeg) v1) (fun m1 =>
      if inb (m1 0 1) 10 = true then
      (bm (mset m1 2 ((m1 0 1).toNatClampNeg) 1000) (fun m2 =>
      bm (mset m2 0 1 ((m2 0 1) + 1)) (fun m3 =>
      some ((m3 0 1) - 1, m3))))
      else none))
      else none))
set_option maxHeartbeats 4000000 in
set_option maxRecDepth 20000 in
theorem gX10_arch (E : XE) {r : Int32 × Mem} (σ : Mem) (v1 : Int32)  (h : fX10_arch σ v1 = some r) : G E LM qX10_arch σ 0 [(0, .ref (xa E 0)), (1, .int v1)] [] (some r.1, r.2) := by
  unfold fX10_arch at h
  refine r_iload_n (pc := 0) 1 dX10_arch_0 rfl rfl ?_
  refine r_iconst (pc := 1) dX10_arch_1 ci_0 ?_
  refine r_iconst (pc := 2) dX10_arch_2 ci_3 ?_
  refine r_callS (pc := 3) (As := [.int v1, .int 0, .int 3]) (rest := []) lkRX10_99 (ceX10_isIn _ _ σ v1 0 3 rfl) ⟨Nat.le_of_ble_eq_true rfl, Nat.le_of_ble_eq_true rfl⟩ rfl rfl (Nat.le_of_ble_eq_true rfl) dX10_arch_3 rfl ?_
  refine r_if_ne (pc := 6) 12 dX10_arch_6 (by decide) h (fun c1 h => ?_) (fun c1 h => ?_)
  · refine r_ldc (pc := 9) w_894 dX10_arch_9 ?_
    exact r_iretW (pc := 11) rfl dX10_arch_11 h
  · refine r_aload_n (pc := 12) 0 dX10_arch_12 rfl rfl ?_
    refine r_getI (pc := 13) (i := 0) fdRX10_96 nLM_0 kLM_0 (by decide) dX10_arch_13 ?_
    refine r_bipush (pc := 16) dX10_arch_16 cb_10 ?_
    refine r_icmp_ne (pc := 18) 24 dX10_arch_18 (by decide) h (fun c2 h => ?_) (fun c2 h => ?_)
    · refine r_ldc (pc := 21) w_895 dX10_arch_21 ?_
      exact r_iretW (pc := 23) rfl dX10_arch_23 h
    · refine r_aload_n (pc := 24) 0 dX10_arch_24 rfl rfl ?_
      refine r_getR (pc := 25) (i := 0) (j := 1) fdRX10_7 nLM_0 kLM_0 (by decide) rfl dX10_arch_25 ?_
      refine r_aload_n (pc := 28) 0 dX10_arch_28 rfl rfl ?_
      refine r_getI (pc := 29) (i := 0) fdRX10_96 nLM_0 kLM_0 (by decide) dX10_arch_29 ?_
      refine r_iload_n (pc := 32) 1 dX10_arch_32 rfl rfl ?_
      refine inb_k h (fun b1 h => ?_)
      refine r_iast (pc := 33) (i := 1) ((σ 0 1).toNatClampNeg) (v1) rfl rfl nLM_1 kLM_1 lLM_1 b1 dX10_arch_33 ?_
      refine g_bm h (fun m1 em1 h => ?_)
      refine r_aload_n (pc := 34) 0 dX10_arch_34 rfl rfl ?_
      refine r_getR (pc := 35) (i := 0) (j := 2) fdRX10_13 nLM_0 kLM_0 (by decide) rfl dX10_arch_35 ?_
      refine r_aload_n (pc := 38) 0 dX10_arch_38 rfl rfl ?_
      refine r_getI (pc := 39) (i := 0) fdRX10_96 nLM_0 kLM_0 (by decide) dX10_arch_39 ?_
      refine r_sipush (pc := 42) dX10_arch_42 cs_1000 ?_
      refine inb_k h (fun b2 h => ?_)
      refine r_iast (pc := 45) (i := 2) ((m1 0 1).toNatClampNeg) (1000) rfl rfl nLM_2 kLM_2 lLM_2 b2 dX10_arch_45 ?_
      refine g_bm h (fun m2 em2 h => ?_)
      refine r_aload_n (pc := 46) 0 dX10_arch_46 rfl rfl ?_
      refine r_dup (pc := 47) dX10_arch_47 rfl ?_
      refine r_getI (pc := 48) (i := 0) fdRX10_96 nLM_0 kLM_0 (by decide) dX10_arch_48 ?_
      refine r_iconst (pc := 51) dX10_arch_51 ci_1 ?_
      refine r_iadd (pc := 52) dX10_arch_52 ?_
      refine r_putI (pc := 53) (i := 0) fpRX10_96 nLM_0 kLM_0 (by decide) rfl rfl dX10_arch_53 ?_
      refine g_bm h (fun m3 em3 h => ?_)
      refine r_aload_n (pc := 56) 0 dX10_arch_56 rfl rfl ?_
      refine r_getI (pc := 57) (i := 0) fdRX10_96 nLM_0 kLM_0 (by decide) dX10_arch_57 ?_
      refine r_iconst (pc := 60) dX10_arch_60 ci_1 ?_
      refine r_isub (pc := 61) dX10_arch_61 ?_
      exact r_iretW (pc := 62) rfl dX10_arch_62 h
theorem ceX10_arch (l : Launch) (d : SD) (σ : Mem) (v1 : Int32)  {r : Int32 × Mem} (h : fX10_arch σ v1 = some r) : Me l d LM yX10_arch qX10_arch σ [.ref (d.2.2.1 0), .int v1] (some r.1, r.2) := me_of (avs := fun d => [.ref (d.2.2.1 0), .int v1]) (by decide) rfl (Nat.le_of_ble_eq_true rfl) (fun E => gX10_arch E σ v1  h)
def fX10_set_68  (σ : Mem) (v1 : Int32) (v2 : Int32) (v3 : Int32) (t0 : Int32) : Option (Int32 × Mem) :=
  if v2 = 0 then
    (if inb v1 10 = true then
    (bm (mset σ 3 v1.toNatClampNeg v3) (fun m1 =>
    some (t0, m1)))
    else none)
  else
    (if inb v1 10 = true then
    (bm (mset σ 4 v1.toNatClampNeg v3) (fun m2 =>
    some (t0, m2)))
    else none)
set_option maxHeartbeats 4000000 in
set_option maxRecDepth 20000 in
theorem gX10_set_68 (E : XE)  {r : Int32 × Mem}  (σ : Mem) (v1 : Int32) (v2 : Int32) (v3 : Int32) (t0 : Int32)  (h : fX10_set_68 σ v1 v2 v3 t0 = some r) : G E LM qX10_set σ 68 [(0, .ref (xa E 0)), (1, .int v1), (2, .int v2), (3, .int v3)] [.int t0] (some r.1, r.2) := by
  unfold fX10_set_68 at h
  refine r_istore (pc := 68) (lv' := [(4, .int t0), (0, .ref (xa E 0)), (1, .int v1), (2, .int v2), (3, .int v3)]) dX10_set_68 (Nat.le_of_ble_eq_true rfl) rfl ?_
  refine r_iload_n (pc := 70) 3 dX10_set_70 rfl rfl ?_
  refine r_if_ne (pc := 71) 84 dX10_set_71 (by decide) h (fun c1 h => ?_) (fun c1 h => ?_)
  · refine r_aload_n (pc := 74) 1 dX10_set_74 rfl rfl ?_
    refine r_getR (pc := 75) (i := 0) (j := 3) fdRX10_16 nLM_0 kLM_0 (by decide) rfl dX10_set_75 ?_
    refine r_iload_n (pc := 78) 2 dX10_set_78 rfl rfl ?_
    refine r_iload_n (pc := 79) 4 dX10_set_79 rfl rfl ?_
    refine inb_k h (fun b1 h => ?_)
    refine r_iast (pc := 80) (i := 3) (v1.toNatClampNeg) (v3) rfl rfl nLM_3 kLM_3 lLM_3 b1 dX10_set_80 ?_
    refine g_bm h (fun m1 em1 h => ?_)
    refine r_goto (pc := 81) 91 dX10_set_81 (by decide) ?_
    refine r_iload (pc := 91) 0 dX10_set_91 rfl ?_
    exact r_iretW (pc := 93) rfl dX10_set_93 h
  · refine r_aload_n (pc := 84) 1 dX10_set_84 rfl rfl ?_
    refine r_getR (pc := 85) (i := 0) (j := 4) fdRX10_19 nLM_0 kLM_0 (by decide) rfl dX10_set_85 ?_
    refine r_iload_n (pc := 88) 2 dX10_set_88 rfl rfl ?_
    refine r_iload_n (pc := 89) 4 dX10_set_89 rfl rfl ?_
    refine inb_k h (fun b2 h => ?_)
    refine r_iast (pc := 90) (i := 4) (v1.toNatClampNeg) (v3) rfl rfl nLM_4 kLM_4 lLM_4 b2 dX10_set_90 ?_
    refine g_bm h (fun m2 em2 h => ?_)
    refine r_iload (pc := 91) 0 dX10_set_91 rfl ?_
    exact r_iretW (pc := 93) rfl dX10_set_93 h
def fX10_set_28  (σ : Mem) (v1 : Int32) (v2 : Int32) (v3 : Int32) (t0 : Int32) (t1 : Int32) (t2 : Int32) : Option (Int32 × Mem) :=
  if fX10_isIn σ t0 t1 t2 = 0 then
    (some ((-1000000001), σ))
  else
    (if inb v1 10 = true then
    (if σ 2 v1.toNatClampNeg = 0 then
      (some ((-1000000002), σ))
    else
      (if v2 = 0 then
        (if inb v1 10 = true then
        (fX10_set_68 σ v1 v2 v3 (σ 3 v1.toNatClampNeg))
        else none)
      else
        (if inb v1 10 = true then
        (fX10_set_68 σ v1 v2 v3 (σ 4 v1.toNatClampNeg))
        else none)))
    else none)
set_option maxHeartbeats 4000000 in
set_option maxRecDepth 20000 in
theorem gX10_set_28 (E : XE)  {r : Int32 × Mem}  (σ : Mem) (v1 : Int32) (v2 : Int32) (v3 : Int32) (t0 : Int32) (t1 : Int32) (t2 : Int32)  (h : fX10_set_28 σ v1 v2 v3 t0 t1 t2 = some r) : G E LM qX10_set σ 28 [(0, .ref (xa E 0)), (1, .int v1), (2, .int v2), (3, .int v3)] [.int t2, .int t1, .int t0] (some r.1, r.2) := by
  unfold fX10_set_28 at h
  refine r_callS (pc := 28) (As := [.int t0, .int t1, .int t2]) (rest := []) lkRX10_99 (ceX10_isIn _ _ σ t0 t1 t2 rfl) ⟨Nat.le_of_ble_eq_true rfl, Nat.le_of_ble_eq_true rfl⟩ rfl rfl (Nat.le_of_ble_eq_true rfl) dX10_set_28 rfl ?_
  refine r_if_ne (pc := 31) 37 dX10_set_31 (by decide) h (fun c1 h => ?_) (fun c1 h => ?_)
  · refine r_ldc (pc := 34) w_894 dX10_set_34 ?_
    exact r_iretW (pc := 36) rfl dX10_set_36 h
  · refine r_aload_n (pc := 37) 0 dX10_set_37 rfl rfl ?_
    refine r_getR (pc := 38) (i := 0) (j := 2) fdRX10_13 nLM_0 kLM_0 (by decide) rfl dX10_set_38 ?_
    refine r_iload_n (pc := 41) 1 dX10_set_41 rfl rfl ?_
    refine inb_k h (fun b1 h => ?_)
    refine r_iald (pc := 42) (i := 2) (v1.toNatClampNeg) rfl nLM_2 kLM_2 lLM_2 b1 dX10_set_42 ?_
    refine r_if_ne (pc := 43) 49 dX10_set_43 (by decide) h (fun c2 h => ?_) (fun c2 h => ?_)
    · refine r_ldc (pc := 46) w_904 dX10_set_46 ?_
      exact r_iretW (pc := 48) rfl dX10_set_48 h
    · refine r_iload_n (pc := 49) 2 dX10_set_49 rfl rfl ?_
      refine r_if_ne (pc := 50) 62 dX10_set_50 (by decide) h (fun c3 h => ?_) (fun c3 h => ?_)
      · refine r_aload_n (pc := 53) 0 dX10_set_53 rfl rfl ?_
        refine r_getR (pc := 54) (i := 0) (j := 3) fdRX10_16 nLM_0 kLM_0 (by decide) rfl dX10_set_54 ?_
        refine r_iload_n (pc := 57) 1 dX10_set_57 rfl rfl ?_
        refine inb_k h (fun b2 h => ?_)
        refine r_iald (pc := 58) (i := 3) (v1.toNatClampNeg) rfl nLM_3 kLM_3 lLM_3 b2 dX10_set_58 ?_
        refine r_goto (pc := 59) 68 dX10_set_59 (by decide) ?_
        exact gX10_set_68 E σ v1 v2 v3 (σ 3 v1.toNatClampNeg) h
      · refine r_aload_n (pc := 62) 0 dX10_set_62 rfl rfl ?_
        refine r_getR (pc := 63) (i := 0) (j := 4) fdRX10_19 nLM_0 kLM_0 (by decide) rfl dX10_set_63 ?_
        refine r_iload_n (pc := 66) 1 dX10_set_66 rfl rfl ?_
        refine inb_k h (fun b3 h => ?_)
        refine r_iald (pc := 67) (i := 4) (v1.toNatClampNeg) rfl nLM_4 kLM_4 lLM_4 b3 dX10_set_67 ?_
        exact gX10_set_68 E σ v1 v2 v3 (σ 4 v1.toNatClampNeg) h
def fX10_set (σ : Mem) (v1 : Int32) (v2 : Int32) (v3 : Int32) : Option (Int32 × Mem) :=
  if fX10_isArch σ v1 = 0 then
    (some ((-1000000001), σ))
  else
    (if fX10_isIn σ v2 0 1 = 0 then
      (some ((-1000000001), σ))
    else
      (if v2 = 0 then
        (fX10_set_28 σ v1 v2 v3 v3 0 4)
      else
        (fX10_set_28 σ v1 v2 v3 v3 0 1)))
set_option maxHeartbeats 4000000 in
set_option maxRecDepth 20000 in
theorem gX10_set (E : XE) {r : Int32 × Mem} (σ : Mem) (v1 : Int32) (v2 : Int32) (v3 : Int32)  (h : fX10_set σ v1 v2 v3 = some r) : G E LM qX10_set σ 0 [(0, .ref (xa E 0)), (1, .int v1), (2, .int v2), (3, .int v3)] [] (some r.1, r.2) := by
  unfold fX10_set at h
  refine r_aload_n (pc := 0) 0 dX10_set_0 rfl rfl ?_
  refine r_iload_n (pc := 1) 1 dX10_set_1 rfl rfl ?_
  refine r_callV (pc := 2) (i := 0) (As := [.int v1]) (rest := []) lkRX10_108 (ceX10_isArch _ _ σ v1 rfl) nLM_0 kLM_0 (by decide) rfl ⟨Nat.le_of_ble_eq_true rfl, Nat.le_of_ble_eq_true rfl⟩ rfl rfl (Nat.le_of_ble_eq_true rfl) dX10_set_2 rfl ?_
  refine r_if_eq (pc := 5) 34 dX10_set_5 (by decide) h (fun c1 h => ?_) (fun c1 h => ?_)
  · refine r_ldc (pc := 34) w_894 dX10_set_34 ?_
    exact r_iretW (pc := 36) rfl dX10_set_36 h
  · refine r_iload_n (pc := 8) 2 dX10_set_8 rfl rfl ?_
    refine r_iconst (pc := 9) dX10_set_9 ci_0 ?_
    refine r_iconst (pc := 10) dX10_set_10 ci_1 ?_
    refine r_callS (pc := 11) (As := [.int v2, .int 0, .int 1]) (rest := []) lkRX10_99 (ceX10_isIn _ _ σ v2 0 1 rfl) ⟨Nat.le_of_ble_eq_true rfl, Nat.le_of_ble_eq_true rfl⟩ rfl rfl (Nat.le_of_ble_eq_true rfl) dX10_set_11 rfl ?_
    refine r_if_eq (pc := 14) 34 dX10_set_14 (by decide) h (fun c2 h => ?_) (fun c2 h => ?_)
    · refine r_ldc (pc := 34) w_894 dX10_set_34 ?_
      exact r_iretW (pc := 36) rfl dX10_set_36 h
    · refine r_iload_n (pc := 17) 3 dX10_set_17 rfl rfl ?_
      refine r_iconst (pc := 18) dX10_set_18 ci_0 ?_
      refine r_iload_n (pc := 19) 2 dX10_set_19 rfl rfl ?_
      refine r_if_ne (pc := 20) 27 dX10_set_20 (by decide) h (fun c3 h => ?_) (fun c3 h => ?_)
      · refine r_iconst (pc := 23) dX10_set_23 ci_4 ?_
        refine r_goto (pc := 24) 28 dX10_set_24 (by decide) ?_
        exact gX10_set_28 E σ v1 v2 v3 v3 0 4 h
      · refine r_iconst (pc := 27) dX10_set_27 ci_1 ?_
        exact gX10_set_28 E σ v1 v2 v3 v3 0 1 h
theorem ceX10_set (l : Launch) (d : SD) (σ : Mem) (v1 : Int32) (v2 : Int32) (v3 : Int32)  {r : Int32 × Mem} (h : fX10_set σ v1 v2 v3 = some r) : Me l d LM yX10_set qX10_set σ [.ref (d.2.2.1 0), .int v1, .int v2, .int v3] (some r.1, r.2) := me_of (avs := fun d => [.ref (d.2.2.1 0), .int v1, .int v2, .int v3]) (by decide) rfl (Nat.le_of_ble_eq_true rfl) (fun E => gX10_set E σ v1 v2 v3  h)
def fX10_numberOf (σ : Mem) (v1 : Int32) (v2 : Int32) : Option Int32 :=
  if inb v1 4 = true then
  (if σ 6 v1.toNatClampNeg = 0 then
    (some (0))
  else
    (if inb v1 4 = true then
    (if σ 8 v1.toNatClampNeg ≤ v2 then
      (some (0))
    else
      (if inb ((200 * v1) + v2) 800 = true then
      (some (σ 9 (((200 * v1) + v2).toNatClampNeg)))
      else none))
    else none))
  else none
set_option maxHeartbeats 4000000 in
set_option maxRecDepth 20000 in
theorem gX10_numberOf (E : XE) {r : Int32} (σ : Mem) (v1 : Int32) (v2 : Int32)  (h : fX10_numberOf σ v1 v2 = some r) : G E LM qX10_numberOf σ 0 [(0, .ref (xa E 0)), (1, .int v1), (2, .int v2)] [] (some r, σ) := by
  unfold fX10_numberOf at h
  refine r_aload_n (pc := 0) 0 dX10_numberOf_0 rfl rfl ?_
  refine r_getR (pc := 1) (i := 0) (j := 6) fdRX10_25 nLM_0 kLM_0 (by decide) rfl dX10_numberOf_1 ?_
  refine r_iload_n (pc := 4) 1 dX10_numberOf_4 rfl rfl ?_
  refine inb_k h (fun b1 h => ?_)
  refine r_zald (pc := 5) (i := 6) (v1.toNatClampNeg) rfl nLM_6 kLM_6 lLM_6 b1 dX10_numberOf_5 ?_
  refine r_if_eq (pc := 6) 34 dX10_numberOf_6 (by decide) h (fun c1 h => ?_) (fun c1 h => ?_)
  · refine r_iconst (pc := 34) dX10_numberOf_34 ci_0 ?_
    exact r_iret (pc := 35) rfl dX10_numberOf_35 (Option.some.inj h) rfl
  · refine r_iload_n (pc := 9) 2 dX10_numberOf_9 rfl rfl ?_
    refine r_aload_n (pc := 10) 0 dX10_numberOf_10 rfl rfl ?_
    refine r_getR (pc := 11) (i := 0) (j := 8) fdRX10_32 nLM_0 kLM_0 (by decide) rfl dX10_numberOf_11 ?_
    refine r_iload_n (pc := 14) 1 dX10_numberOf_14 rfl rfl ?_
    refine inb_k h (fun b2 h => ?_)
    refine r_iald (pc := 15) (i := 8) (v1.toNatClampNeg) rfl nLM_8 kLM_8 lLM_8 b2 dX10_numberOf_15 ?_
    refine r_icmp_ge (pc := 16) 34 dX10_numberOf_16 (by decide) h (fun c2 h => ?_) (fun c2 h => ?_)
    · refine r_iconst (pc := 34) dX10_numberOf_34 ci_0 ?_
      exact r_iret (pc := 35) rfl dX10_numberOf_35 (Option.some.inj h) rfl
    · refine r_aload_n (pc := 19) 0 dX10_numberOf_19 rfl rfl ?_
      refine r_getR (pc := 20) (i := 0) (j := 9) fdRX10_35 nLM_0 kLM_0 (by decide) rfl dX10_numberOf_20 ?_
      refine r_sipush (pc := 23) dX10_numberOf_23 cs_200 ?_
      refine r_iload_n (pc := 26) 1 dX10_numberOf_26 rfl rfl ?_
      refine r_imul (pc := 27) dX10_numberOf_27 ?_
      refine r_iload_n (pc := 28) 2 dX10_numberOf_28 rfl rfl ?_
      refine r_iadd (pc := 29) dX10_numberOf_29 ?_
      refine inb_k h (fun b3 h => ?_)
      refine r_iald (pc := 30) (i := 9) (((200 * v1) + v2).toNatClampNeg) rfl nLM_9 kLM_9 lLM_9 b3 dX10_numberOf_30 ?_
      refine r_goto (pc := 31) 35 dX10_numberOf_31 (by decide) ?_
      exact r_iret (pc := 35) rfl dX10_numberOf_35 (Option.some.inj h) rfl
theorem ceX10_numberOf (l : Launch) (d : SD) (σ : Mem) (v1 : Int32) (v2 : Int32)  {r : Int32} (h : fX10_numberOf σ v1 v2 = some r) : Me l d LM yX10_numberOf qX10_numberOf σ [.ref (d.2.2.1 0), .int v1, .int v2] (some r, σ) := me_of (avs := fun d => [.ref (d.2.2.1 0), .int v1, .int v2]) (by decide) rfl (Nat.le_of_ble_eq_true rfl) (fun E => gX10_numberOf E σ v1 v2  h)
def fX10_asItIs_2  : Nat → Mem → Int32 → Option Mem
  | 0, _, _ => none
  | n + 1, σ, v1 =>
    if σ 0 1 ≤ v1 then
      (some σ)
    else
      (if inb v1 10 = true then
      (if inb v1 10 = true then
      (bm (mset σ 22 v1.toNatClampNeg (σ 2 v1.toNatClampNeg)) (fun m1 =>
      if inb v1 10 = true then
      (if inb v1 10 = true then
      (bm (mset m1 23 v1.toNatClampNeg (m1 3 v1.toNatClampNeg)) (fun m2 =>
      if inb v1 10 = true then
      (if inb v1 10 = true then
      (bm (mset m2 24 v1.toNatClampNeg (m2 4 v1.toNatClampNeg)) (fun m3 =>
      fX10_asItIs_2 n m3 (v1 + 1)))
      else none)
      else none))
      else none)
      else none))
      else none)
      else none)
set_option maxHeartbeats 4000000 in
set_option maxRecDepth 20000 in
theorem gX10_asItIs_2 (E : XE)  {r : Mem}  : ∀ (n : Nat) (σ : Mem) (v1 : Int32), fX10_asItIs_2 n σ v1 = some r → G E LM qX10_asItIs σ 2 [(0, .ref (xa E 0)), (1, .int v1)] [] (none, r) := by
  intro n
  induction n with
  | zero => intro σ v1 h; cases h
  | succ n ih =>
    intro σ v1 h
    unfold fX10_asItIs_2 at h
    refine r_iload_n (pc := 2) 1 dX10_asItIs_2 rfl rfl ?_
    refine r_aload_n (pc := 3) 0 dX10_asItIs_3 rfl rfl ?_
    refine r_getI (pc := 4) (i := 0) fdRX10_96 nLM_0 kLM_0 (by decide) dX10_asItIs_4 ?_
    refine r_icmp_ge (pc := 7) 52 dX10_asItIs_7 (by decide) h (fun c1 h => ?_) (fun c1 h => ?_)
    · exact r_vret (pc := 52) rfl dX10_asItIs_52 (Option.some.inj h)
    · refine r_aload_n (pc := 10) 0 dX10_asItIs_10 rfl rfl ?_
      refine r_getR (pc := 11) (i := 0) (j := 22) fdRX10_74 nLM_0 kLM_0 (by decide) rfl dX10_asItIs_11 ?_
      refine r_iload_n (pc := 14) 1 dX10_asItIs_14 rfl rfl ?_
      refine r_aload_n (pc := 15) 0 dX10_asItIs_15 rfl rfl ?_
      refine r_getR (pc := 16) (i := 0) (j := 2) fdRX10_13 nLM_0 kLM_0 (by decide) rfl dX10_asItIs_16 ?_
      refine r_iload_n (pc := 19) 1 dX10_asItIs_19 rfl rfl ?_
      refine inb_k h (fun b1 h => ?_)
      refine r_iald (pc := 20) (i := 2) (v1.toNatClampNeg) rfl nLM_2 kLM_2 lLM_2 b1 dX10_asItIs_20 ?_
      refine inb_k h (fun b2 h => ?_)
      refine r_iast (pc := 21) (i := 22) (v1.toNatClampNeg) (σ 2 v1.toNatClampNeg) rfl rfl nLM_22 kLM_22 lLM_22 b2 dX10_asItIs_21 ?_
      refine g_bm h (fun m1 em1 h => ?_)
      refine r_aload_n (pc := 22) 0 dX10_asItIs_22 rfl rfl ?_
      refine r_getR (pc := 23) (i := 0) (j := 23) fdRX10_77 nLM_0 kLM_0 (by decide) rfl dX10_asItIs_23 ?_
      refine r_iload_n (pc := 26) 1 dX10_asItIs_26 rfl rfl ?_
      refine r_aload_n (pc := 27) 0 dX10_asItIs_27 rfl rfl ?_
      refine r_getR (pc := 28) (i := 0) (j := 3) fdRX10_16 nLM_0 kLM_0 (by decide) rfl dX10_asItIs_28 ?_
      refine r_iload_n (pc := 31) 1 dX10_asItIs_31 rfl rfl ?_
      refine inb_k h (fun b3 h => ?_)
      refine r_iald (pc := 32) (i := 3) (v1.toNatClampNeg) rfl nLM_3 kLM_3 lLM_3 b3 dX10_asItIs_32 ?_
      refine inb_k h (fun b4 h => ?_)
      refine r_iast (pc := 33) (i := 23) (v1.toNatClampNeg) (m1 3 v1.toNatClampNeg) rfl rfl nLM_23 kLM_23 lLM_23 b4 dX10_asItIs_33 ?_
      refine g_bm h (fun m2 em2 h => ?_)
      refine r_aload_n (pc := 34) 0 dX10_asItIs_34 rfl rfl ?_
      refine r_getR (pc := 35) (i := 0) (j := 24) fdRX10_80 nLM_0 kLM_0 (by decide) rfl dX10_asItIs_35 ?_
      refine r_iload_n (pc := 38) 1 dX10_asItIs_38 rfl rfl ?_
      refine r_aload_n (pc := 39) 0 dX10_asItIs_39 rfl rfl ?_
      refine r_getR (pc := 40) (i := 0) (j := 4) fdRX10_19 nLM_0 kLM_0 (by decide) rfl dX10_asItIs_40 ?_
      refine r_iload_n (pc := 43) 1 dX10_asItIs_43 rfl rfl ?_
      refine inb_k h (fun b5 h => ?_)
      refine r_iald (pc := 44) (i := 4) (v1.toNatClampNeg) rfl nLM_4 kLM_4 lLM_4 b5 dX10_asItIs_44 ?_
      refine inb_k h (fun b6 h => ?_)
      refine r_iast (pc := 45) (i := 24) (v1.toNatClampNeg) (m2 4 v1.toNatClampNeg) rfl rfl nLM_24 kLM_24 lLM_24 b6 dX10_asItIs_45 ?_
      refine g_bm h (fun m3 em3 h => ?_)
      refine r_iinc (pc := 46) (v := v1 + 1) (lv' := [(1, .int (v1 + 1)), (0, .ref (xa E 0))]) 1 dX10_asItIs_46 rfl (by rw [ci_1]) (Nat.le_of_ble_eq_true rfl) rfl ?_
      refine r_goto (pc := 49) 2 dX10_asItIs_49 (by decide) ?_
      refine r_sub [1, 0] rfl ?_
      exact ih m3 (v1 + 1) h
def fX10_asItIs (σ : Mem)  : Option Mem :=
  fX10_asItIs_2 300 σ 0
set_option maxHeartbeats 4000000 in
set_option maxRecDepth 20000 in
theorem gX10_asItIs (E : XE) {r : Mem} (σ : Mem)   (h : fX10_asItIs σ  = some r) : G E LM qX10_asItIs σ 0 [(0, .ref (xa E 0))] [] (none, r) := by
  unfold fX10_asItIs at h
  refine r_iconst (pc := 0) dX10_asItIs_0 ci_0 ?_
  refine r_istore_n (pc := 1) (lv' := [(1, .int 0), (0, .ref (xa E 0))]) dX10_asItIs_1 rfl (Nat.le_of_ble_eq_true rfl) rfl ?_
  refine r_sub [1, 0] rfl ?_
  exact gX10_asItIs_2 E 300 σ 0 h
theorem ceX10_asItIs (l : Launch) (d : SD) (σ : Mem)   {r : Mem} (h : fX10_asItIs σ  = some r) : Me l d LM yX10_asItIs qX10_asItIs σ [.ref (d.2.2.1 0)] (none, r) := me_of (avs := fun d => [.ref (d.2.2.1 0)]) (by decide) rfl (Nat.le_of_ble_eq_true rfl) (fun E => gX10_asItIs E σ   h)
def fX10_findLosses_146 (c63 : Mem → Int32 → Int32 → Option Mem) (σ : Mem) (v3 : Int32) (v4 : Int32) (t0 : Int32) : Option Mem :=
  if inb v4 10 = true then
  (if σ 22 v4.toNatClampNeg = 0 then
    (if inb v4 10 = true then
    (bm (mset σ 25 v4.toNatClampNeg 0) (fun m1 =>
    c63 m1 v3 (v4 + 1)))
    else none)
  else
    (if inb v4 10 = true then
    (if σ 1 v4.toNatClampNeg = 1 then
      (if inb v4 10 = true then
      (bm (mset σ 25 v4.toNatClampNeg (t0 + (v3 / 2))) (fun m2 =>
      c63 m2 v3 (v4 + 1)))
      else none)
    else
      (if inb v4 10 = true then
      (bm (mset σ 25 v4.toNatClampNeg (t0 + v3)) (fun m3 =>
      c63 m3 v3 (v4 + 1)))
      else none))
    else none))
  else none
set_option maxHeartbeats 4000000 in
set_option maxRecDepth 20000 in
theorem gX10_findLosses_146 (E : XE) (c63 : Mem → Int32 → Int32 → Option Mem) {r : Mem} (hc63 : ∀ (σ : Mem) (v3 : Int32) (v4 : Int32), c63 σ v3 v4 = some r → G E LM qX10_findLosses σ 63 [(0, .ref (xa E 0)), (3, .int v3), (4, .int v4)] [] (none, r)) (σ : Mem) (v3 : Int32) (v4 : Int32) (t0 : Int32)  (h : fX10_findLosses_146 c63 σ v3 v4 t0 = some r) : G E LM qX10_findLosses σ 146 [(0, .ref (xa E 0)), (3, .int v3), (4, .int v4)] [.int t0] (none, r) := by
  unfold fX10_findLosses_146 at h
  refine r_istore (pc := 146) (lv' := [(6, .int t0), (0, .ref (xa E 0)), (3, .int v3), (4, .int v4)]) dX10_findLosses_146 (Nat.le_of_ble_eq_true rfl) rfl ?_
  refine r_aload_n (pc := 148) 1 dX10_findLosses_148 rfl rfl ?_
  refine r_getR (pc := 149) (i := 0) (j := 25) fdRX10_83 nLM_0 kLM_0 (by decide) rfl dX10_findLosses_149 ?_
  refine r_iload (pc := 152) 3 dX10_findLosses_152 rfl ?_
  refine r_aload_n (pc := 154) 1 dX10_findLosses_154 rfl rfl ?_
  refine r_getR (pc := 155) (i := 0) (j := 22) fdRX10_74 nLM_0 kLM_0 (by decide) rfl dX10_findLosses_155 ?_
  refine r_iload (pc := 158) 3 dX10_findLosses_158 rfl ?_
  refine inb_k h (fun b1 h => ?_)
  refine r_iald (pc := 160) (i := 22) (v4.toNatClampNeg) rfl nLM_22 kLM_22 lLM_22 b1 dX10_findLosses_160 ?_
  refine r_if_ne (pc := 161) 168 dX10_findLosses_161 (by decide) h (fun c1 h => ?_) (fun c1 h => ?_)
  · refine r_iconst (pc := 164) dX10_findLosses_164 ci_0 ?_
    refine r_goto (pc := 165) 189 dX10_findLosses_165 (by decide) ?_
    refine inb_k h (fun b2 h => ?_)
    refine r_iast (pc := 189) (i := 25) (v4.toNatClampNeg) (0) rfl rfl nLM_25 kLM_25 lLM_25 b2 dX10_findLosses_189 ?_
    refine g_bm h (fun m1 em1 h => ?_)
    refine r_iinc (pc := 190) (v := v4 + 1) (lv' := [(4, .int (v4 + 1)), (6, .int t0), (0, .ref (xa E 0)), (3, .int v3)]) 3 dX10_findLosses_190 rfl (by rw [ci_1]) (Nat.le_of_ble_eq_true rfl) rfl ?_
    refine r_goto (pc := 193) 63 dX10_findLosses_193 (by decide) ?_
    refine r_sub [2, 3, 0] rfl ?_
    exact hc63 m1 v3 (v4 + 1) h
  · refine r_iload (pc := 168) 0 dX10_findLosses_168 rfl ?_
    refine r_aload_n (pc := 170) 1 dX10_findLosses_170 rfl rfl ?_
    refine r_getR (pc := 171) (i := 0) (j := 1) fdRX10_7 nLM_0 kLM_0 (by decide) rfl dX10_findLosses_171 ?_
    refine r_iload (pc := 174) 3 dX10_findLosses_174 rfl ?_
    refine inb_k h (fun b3 h => ?_)
    refine r_iald (pc := 176) (i := 1) (v4.toNatClampNeg) rfl nLM_1 kLM_1 lLM_1 b3 dX10_findLosses_176 ?_
    refine r_iconst (pc := 177) dX10_findLosses_177 ci_1 ?_
    refine r_icmp_ne (pc := 178) 187 dX10_findLosses_178 (by decide) h (fun c2 h => ?_) (fun c2 h => ?_)
    · refine r_iload_n (pc := 181) 2 dX10_findLosses_181 rfl rfl ?_
      refine r_iconst (pc := 182) dX10_findLosses_182 ci_2 ?_
      refine r_idiv (pc := 183) dX10_findLosses_183 (by decide) ?_
      refine r_goto (pc := 184) 188 dX10_findLosses_184 (by decide) ?_
      refine r_iadd (pc := 188) dX10_findLosses_188 ?_
      refine inb_k h (fun b4 h => ?_)
      refine r_iast (pc := 189) (i := 25) (v4.toNatClampNeg) (t0 + (v3 / 2)) rfl rfl nLM_25 kLM_25 lLM_25 b4 dX10_findLosses_189 ?_
      refine g_bm h (fun m2 em2 h => ?_)
      refine r_iinc (pc := 190) (v := v4 + 1) (lv' := [(4, .int (v4 + 1)), (6, .int t0), (0, .ref (xa E 0)), (3, .int v3)]) 3 dX10_findLosses_190 rfl (by rw [ci_1]) (Nat.le_of_ble_eq_true rfl) rfl ?_
      refine r_goto (pc := 193) 63 dX10_findLosses_193 (by decide) ?_
      refine r_sub [2, 3, 0] rfl ?_
      exact hc63 m2 v3 (v4 + 1) h
    · refine r_iload_n (pc := 187) 2 dX10_findLosses_187 rfl rfl ?_
      refine r_iadd (pc := 188) dX10_findLosses_188 ?_
      refine inb_k h (fun b5 h => ?_)
      refine r_iast (pc := 189) (i := 25) (v4.toNatClampNeg) (t0 + v3) rfl rfl nLM_25 kLM_25 lLM_25 b5 dX10_findLosses_189 ?_
      refine g_bm h (fun m3 em3 h => ?_)
      refine r_iinc (pc := 190) (v := v4 + 1) (lv' := [(4, .int (v4 + 1)), (6, .int t0), (0, .ref (xa E 0)), (3, .int v3)]) 3 dX10_findLosses_190 rfl (by rw [ci_1]) (Nat.le_of_ble_eq_true rfl) rfl ?_
      refine r_goto (pc := 193) 63 dX10_findLosses_193 (by decide) ?_
      refine r_sub [2, 3, 0] rfl ?_
      exact hc63 m3 v3 (v4 + 1) h
def fX10_findLosses_63  : Nat → Mem → Int32 → Int32 → Option Mem
  | 0, _, _, _ => none
  | n + 1, σ, v3, v4 =>
    if σ 0 1 ≤ v4 then
      (some σ)
    else
      (if inb v4 10 = true then
      (bi (10 + (4 * (σ 23 v4.toNatClampNeg))) (fun x1 =>
      if inb v4 10 = true then
      (if σ 1 v4.toNatClampNeg = 1 then
        (fX10_findLosses_146 (fun σ_ v3_ v4_ => fX10_findLosses_63 n σ_ v3_ v4_) σ v3 v4 (x1 / 2))
      else
        (if inb v4 10 = true then
        (if σ 1 v4.toNatClampNeg = 2 then
          (fX10_findLosses_146 (fun σ_ v3_ v4_ => fX10_findLosses_63 n σ_ v3_ v4_) σ v3 v4 (x1 + 15))
        else
          (if inb v4 10 = true then
          (if σ 1 v4.toNatClampNeg = 3 then
            (fX10_findLosses_146 (fun σ_ v3_ v4_ => fX10_findLosses_63 n σ_ v3_ v4_) σ v3 v4 (2 * (x1 + 15)))
          else
            (fX10_findLosses_146 (fun σ_ v3_ v4_ => fX10_findLosses_63 n σ_ v3_ v4_) σ v3 v4 x1))
          else none))
        else none))
      else none))
      else none)
set_option maxHeartbeats 4000000 in
set_option maxRecDepth 20000 in
theorem gX10_findLosses_63 (E : XE)  {r : Mem}  : ∀ (n : Nat) (σ : Mem) (v3 : Int32) (v4 : Int32), fX10_findLosses_63 n σ v3 v4 = some r → G E LM qX10_findLosses σ 63 [(0, .ref (xa E 0)), (3, .int v3), (4, .int v4)] [] (none, r) := by
  intro n
  induction n with
  | zero => intro σ v3 v4 h; cases h
  | succ n ih =>
    intro σ v3 v4 h
    unfold fX10_findLosses_63 at h
    refine r_iload (pc := 63) 2 dX10_findLosses_63 rfl ?_
    refine r_aload_n (pc := 65) 0 dX10_findLosses_65 rfl rfl ?_
    refine r_getI (pc := 66) (i := 0) fdRX10_96 nLM_0 kLM_0 (by decide) dX10_findLosses_66 ?_
    refine r_icmp_ge (pc := 69) 196 dX10_findLosses_69 (by decide) h (fun c1 h => ?_) (fun c1 h => ?_)
    · exact r_vret (pc := 196) rfl dX10_findLosses_196 (Option.some.inj h)
    · refine r_bipush (pc := 72) dX10_findLosses_72 cb_10 ?_
      refine r_iconst (pc := 74) dX10_findLosses_74 ci_4 ?_
      refine r_aload_n (pc := 75) 0 dX10_findLosses_75 rfl rfl ?_
      refine r_getR (pc := 76) (i := 0) (j := 23) fdRX10_77 nLM_0 kLM_0 (by decide) rfl dX10_findLosses_76 ?_
      refine r_iload (pc := 79) 2 dX10_findLosses_79 rfl ?_
      refine inb_k h (fun b1 h => ?_)
      refine r_iald (pc := 81) (i := 23) (v4.toNatClampNeg) rfl nLM_23 kLM_23 lLM_23 b1 dX10_findLosses_81 ?_
      refine r_imul (pc := 82) dX10_findLosses_82 ?_
      refine r_iadd (pc := 83) dX10_findLosses_83 ?_
      refine g_bi h (fun x1 ex1 h => ?_)
      refine r_istore (pc := 84) (lv' := [(5, .int x1), (0, .ref (xa E 0)), (3, .int v3), (4, .int v4)]) dX10_findLosses_84 (Nat.le_of_ble_eq_true rfl) rfl ?_
      refine r_aload_n (pc := 86) 1 dX10_findLosses_86 rfl rfl ?_
      refine r_getR (pc := 87) (i := 0) (j := 1) fdRX10_7 nLM_0 kLM_0 (by decide) rfl dX10_findLosses_87 ?_
      refine r_iload (pc := 90) 3 dX10_findLosses_90 rfl ?_
      refine inb_k h (fun b2 h => ?_)
      refine r_iald (pc := 92) (i := 1) (v4.toNatClampNeg) rfl nLM_1 kLM_1 lLM_1 b2 dX10_findLosses_92 ?_
      refine r_iconst (pc := 93) dX10_findLosses_93 ci_1 ?_
      refine r_icmp_ne (pc := 94) 104 dX10_findLosses_94 (by decide) h (fun c2 h => ?_) (fun c2 h => ?_)
      · refine r_iload (pc := 97) 0 dX10_findLosses_97 rfl ?_
        refine r_iconst (pc := 99) dX10_findLosses_99 ci_2 ?_
        refine r_idiv (pc := 100) dX10_findLosses_100 (by decide) ?_
        refine r_goto (pc := 101) 146 dX10_findLosses_101 (by decide) ?_
        refine r_sub [1, 2, 3] rfl ?_
        exact gX10_findLosses_146 E (fun σ_ v3_ v4_ => fX10_findLosses_63 n σ_ v3_ v4_) ih σ v3 v4 (x1 / 2) h
      · refine r_aload_n (pc := 104) 1 dX10_findLosses_104 rfl rfl ?_
        refine r_getR (pc := 105) (i := 0) (j := 1) fdRX10_7 nLM_0 kLM_0 (by decide) rfl dX10_findLosses_105 ?_
        refine r_iload (pc := 108) 3 dX10_findLosses_108 rfl ?_
        refine inb_k h (fun b3 h => ?_)
        refine r_iald (pc := 110) (i := 1) (v4.toNatClampNeg) rfl nLM_1 kLM_1 lLM_1 b3 dX10_findLosses_110 ?_
        refine r_iconst (pc := 111) dX10_findLosses_111 ci_2 ?_
        refine r_icmp_ne (pc := 112) 123 dX10_findLosses_112 (by decide) h (fun c3 h => ?_) (fun c3 h => ?_)
        · refine r_iload (pc := 115) 0 dX10_findLosses_115 rfl ?_
          refine r_bipush (pc := 117) dX10_findLosses_117 cb_15 ?_
          refine r_iadd (pc := 119) dX10_findLosses_119 ?_
          refine r_goto (pc := 120) 146 dX10_findLosses_120 (by decide) ?_
          refine r_sub [1, 2, 3] rfl ?_
          exact gX10_findLosses_146 E (fun σ_ v3_ v4_ => fX10_findLosses_63 n σ_ v3_ v4_) ih σ v3 v4 (x1 + 15) h
        · refine r_aload_n (pc := 123) 1 dX10_findLosses_123 rfl rfl ?_
          refine r_getR (pc := 124) (i := 0) (j := 1) fdRX10_7 nLM_0 kLM_0 (by decide) rfl dX10_findLosses_124 ?_
          refine r_iload (pc := 127) 3 dX10_findLosses_127 rfl ?_
          refine inb_k h (fun b4 h => ?_)
          refine r_iald (pc := 129) (i := 1) (v4.toNatClampNeg) rfl nLM_1 kLM_1 lLM_1 b4 dX10_findLosses_129 ?_
          refine r_iconst (pc := 130) dX10_findLosses_130 ci_3 ?_
          refine r_icmp_ne (pc := 131) 144 dX10_findLosses_131 (by decide) h (fun c4 h => ?_) (fun c4 h => ?_)
          · refine r_iconst (pc := 134) dX10_findLosses_134 ci_2 ?_
            refine r_iload (pc := 135) 0 dX10_findLosses_135 rfl ?_
            refine r_bipush (pc := 137) dX10_findLosses_137 cb_15 ?_
            refine r_iadd (pc := 139) dX10_findLosses_139 ?_
            refine r_imul (pc := 140) dX10_findLosses_140 ?_
            refine r_goto (pc := 141) 146 dX10_findLosses_141 (by decide) ?_
            refine r_sub [1, 2, 3] rfl ?_
            exact gX10_findLosses_146 E (fun σ_ v3_ v4_ => fX10_findLosses_63 n σ_ v3_ v4_) ih σ v3 v4 (2 * (x1 + 15)) h
          · refine r_iload (pc := 144) 0 dX10_findLosses_144 rfl ?_
            refine r_sub [1, 2, 3] rfl ?_
            exact gX10_findLosses_146 E (fun σ_ v3_ v4_ => fX10_findLosses_63 n σ_ v3_ v4_) ih σ v3 v4 x1 h
def fX10_findLosses_45  (σ : Mem) (v1 : Int32) (v2 : Int32) : Option Mem :=
  bo (fX10_numberOf σ 0 v1) (fun z1 =>
  bi ((z1 * (10 + v2)) / 10) (fun x1 =>
  fX10_findLosses_63 300 σ x1 0))
set_option maxHeartbeats 4000000 in
set_option maxRecDepth 20000 in
theorem gX10_findLosses_45 (E : XE)  {r : Mem}  (σ : Mem) (v1 : Int32) (v2 : Int32)  (h : fX10_findLosses_45 σ v1 v2 = some r) : G E LM qX10_findLosses σ 45 [(0, .ref (xa E 0)), (1, .int v1), (2, .int v2)] [] (none, r) := by
  unfold fX10_findLosses_45 at h
  refine r_aload_n (pc := 45) 0 dX10_findLosses_45 rfl rfl ?_
  refine r_iconst (pc := 46) dX10_findLosses_46 ci_0 ?_
  refine r_iload_n (pc := 47) 1 dX10_findLosses_47 rfl rfl ?_
  refine bo_k h (fun z1 hz1 h => ?_)
  refine r_callV (pc := 48) (i := 0) (As := [.int 0, .int v1]) (rest := []) lkRX10_113 (ceX10_numberOf _ _ σ 0 v1 hz1) nLM_0 kLM_0 (by decide) rfl ⟨Nat.le_of_ble_eq_true rfl, Nat.le_of_ble_eq_true rfl⟩ rfl rfl (Nat.le_of_ble_eq_true rfl) dX10_findLosses_48 rfl ?_
  refine r_bipush (pc := 51) dX10_findLosses_51 cb_10 ?_
  refine r_iload_n (pc := 53) 2 dX10_findLosses_53 rfl rfl ?_
  refine r_iadd (pc := 54) dX10_findLosses_54 ?_
  refine r_imul (pc := 55) dX10_findLosses_55 ?_
  refine r_bipush (pc := 56) dX10_findLosses_56 cb_10 ?_
  refine r_idiv (pc := 58) dX10_findLosses_58 (by decide) ?_
  refine g_bi h (fun x1 ex1 h => ?_)
  refine r_istore_n (pc := 59) (lv' := [(3, .int x1), (0, .ref (xa E 0)), (1, .int v1), (2, .int v2)]) dX10_findLosses_59 rfl (Nat.le_of_ble_eq_true rfl) rfl ?_
  refine r_iconst (pc := 60) dX10_findLosses_60 ci_0 ?_
  refine r_istore (pc := 61) (lv' := [(4, .int 0), (3, .int x1), (0, .ref (xa E 0)), (1, .int v1), (2, .int v2)]) dX10_findLosses_61 (Nat.le_of_ble_eq_true rfl) rfl ?_
  refine r_sub [2, 1, 0] rfl ?_
  exact gX10_findLosses_63 E 300 σ x1 0 h
def fX10_findLosses_4  : Nat → Mem → Int32 → Int32 → Int32 → Option Mem
  | 0, _, _, _, _ => none
  | n + 1, σ, v1, v2, v3 =>
    if σ 0 1 ≤ v3 then
      (fX10_findLosses_45 σ v1 v2)
    else
      (if inb v3 10 = true then
      (if σ 24 v3.toNatClampNeg = 1 then
        (bi (v2 + 1) (fun x1 =>
        fX10_findLosses_4 n σ v1 x1 (v3 + 1)))
      else
        (if inb v3 10 = true then
        (if σ 22 v3.toNatClampNeg = 0 then
          (bi (v2 + 1) (fun x2 =>
          fX10_findLosses_4 n σ v1 x2 (v3 + 1)))
        else
          (bi (v2 + 0) (fun x3 =>
          fX10_findLosses_4 n σ v1 x3 (v3 + 1))))
        else none))
      else none)
set_option maxHeartbeats 4000000 in
set_option maxRecDepth 20000 in
theorem gX10_findLosses_4 (E : XE)  {r : Mem}  : ∀ (n : Nat) (σ : Mem) (v1 : Int32) (v2 : Int32) (v3 : Int32), fX10_findLosses_4 n σ v1 v2 v3 = some r → G E LM qX10_findLosses σ 4 [(0, .ref (xa E 0)), (1, .int v1), (2, .int v2), (3, .int v3)] [] (none, r) := by
  intro n
  induction n with
  | zero => intro σ v1 v2 v3 h; cases h
  | succ n ih =>
    intro σ v1 v2 v3 h
    unfold fX10_findLosses_4 at h
    refine r_iload_n (pc := 4) 3 dX10_findLosses_4 rfl rfl ?_
    refine r_aload_n (pc := 5) 0 dX10_findLosses_5 rfl rfl ?_
    refine r_getI (pc := 6) (i := 0) fdRX10_96 nLM_0 kLM_0 (by decide) dX10_findLosses_6 ?_
    refine r_icmp_ge (pc := 9) 45 dX10_findLosses_9 (by decide) h (fun c1 h => ?_) (fun c1 h => ?_)
    · refine r_sub [0, 1, 2] rfl ?_
      exact gX10_findLosses_45 E σ v1 v2 h
    · refine r_iload_n (pc := 12) 2 dX10_findLosses_12 rfl rfl ?_
      refine r_aload_n (pc := 13) 0 dX10_findLosses_13 rfl rfl ?_
      refine r_getR (pc := 14) (i := 0) (j := 24) fdRX10_80 nLM_0 kLM_0 (by decide) rfl dX10_findLosses_14 ?_
      refine r_iload_n (pc := 17) 3 dX10_findLosses_17 rfl rfl ?_
      refine inb_k h (fun b1 h => ?_)
      refine r_iald (pc := 18) (i := 24) (v3.toNatClampNeg) rfl nLM_24 kLM_24 lLM_24 b1 dX10_findLosses_18 ?_
      refine r_iconst (pc := 19) dX10_findLosses_19 ci_1 ?_
      refine r_icmp_eq (pc := 20) 32 dX10_findLosses_20 (by decide) h (fun c2 h => ?_) (fun c2 h => ?_)
      · refine r_iconst (pc := 32) dX10_findLosses_32 ci_1 ?_
        refine r_goto (pc := 33) 37 dX10_findLosses_33 (by decide) ?_
        refine r_iadd (pc := 37) dX10_findLosses_37 ?_
        refine g_bi h (fun x1 ex1 h => ?_)
        refine r_istore_n (pc := 38) (lv' := [(2, .int x1), (0, .ref (xa E 0)), (1, .int v1), (3, .int v3)]) dX10_findLosses_38 rfl (Nat.le_of_ble_eq_true rfl) rfl ?_
        refine r_iinc (pc := 39) (v := v3 + 1) (lv' := [(3, .int (v3 + 1)), (2, .int x1), (0, .ref (xa E 0)), (1, .int v1)]) 3 dX10_findLosses_39 rfl (by rw [ci_1]) (Nat.le_of_ble_eq_true rfl) rfl ?_
        refine r_goto (pc := 42) 4 dX10_findLosses_42 (by decide) ?_
        refine r_sub [2, 3, 1, 0] rfl ?_
        exact ih σ v1 x1 (v3 + 1) h
      · refine r_aload_n (pc := 23) 0 dX10_findLosses_23 rfl rfl ?_
        refine r_getR (pc := 24) (i := 0) (j := 22) fdRX10_74 nLM_0 kLM_0 (by decide) rfl dX10_findLosses_24 ?_
        refine r_iload_n (pc := 27) 3 dX10_findLosses_27 rfl rfl ?_
        refine inb_k h (fun b2 h => ?_)
        refine r_iald (pc := 28) (i := 22) (v3.toNatClampNeg) rfl nLM_22 kLM_22 lLM_22 b2 dX10_findLosses_28 ?_
        refine r_if_ne (pc := 29) 36 dX10_findLosses_29 (by decide) h (fun c3 h => ?_) (fun c3 h => ?_)
        · refine r_iconst (pc := 32) dX10_findLosses_32 ci_1 ?_
          refine r_goto (pc := 33) 37 dX10_findLosses_33 (by decide) ?_
          refine r_iadd (pc := 37) dX10_findLosses_37 ?_
          refine g_bi h (fun x2 ex2 h => ?_)
          refine r_istore_n (pc := 38) (lv' := [(2, .int x2), (0, .ref (xa E 0)), (1, .int v1), (3, .int v3)]) dX10_findLosses_38 rfl (Nat.le_of_ble_eq_true rfl) rfl ?_
          refine r_iinc (pc := 39) (v := v3 + 1) (lv' := [(3, .int (v3 + 1)), (2, .int x2), (0, .ref (xa E 0)), (1, .int v1)]) 3 dX10_findLosses_39 rfl (by rw [ci_1]) (Nat.le_of_ble_eq_true rfl) rfl ?_
          refine r_goto (pc := 42) 4 dX10_findLosses_42 (by decide) ?_
          refine r_sub [2, 3, 1, 0] rfl ?_
          exact ih σ v1 x2 (v3 + 1) h
        · refine r_iconst (pc := 36) dX10_findLosses_36 ci_0 ?_
          refine r_iadd (pc := 37) dX10_findLosses_37 ?_
          refine g_bi h (fun x3 ex3 h => ?_)
          refine r_istore_n (pc := 38) (lv' := [(2, .int x3), (0, .ref (xa E 0)), (1, .int v1), (3, .int v3)]) dX10_findLosses_38 rfl (Nat.le_of_ble_eq_true rfl) rfl ?_
          refine r_iinc (pc := 39) (v := v3 + 1) (lv' := [(3, .int (v3 + 1)), (2, .int x3), (0, .ref (xa E 0)), (1, .int v1)]) 3 dX10_findLosses_39 rfl (by rw [ci_1]) (Nat.le_of_ble_eq_true rfl) rfl ?_
          refine r_goto (pc := 42) 4 dX10_findLosses_42 (by decide) ?_
          refine r_sub [2, 3, 1, 0] rfl ?_
          exact ih σ v1 x3 (v3 + 1) h
def fX10_findLosses (σ : Mem) (v1 : Int32) : Option Mem :=
  fX10_findLosses_4 300 σ v1 0 0
set_option maxHeartbeats 4000000 in
set_option maxRecDepth 20000 in
theorem gX10_findLosses (E : XE) {r : Mem} (σ : Mem) (v1 : Int32)  (h : fX10_findLosses σ v1 = some r) : G E LM qX10_findLosses σ 0 [(0, .ref (xa E 0)), (1, .int v1)] [] (none, r) := by
  unfold fX10_findLosses at h
  refine r_iconst (pc := 0) dX10_findLosses_0 ci_0 ?_
  refine r_istore_n (pc := 1) (lv' := [(2, .int 0), (0, .ref (xa E 0)), (1, .int v1)]) dX10_findLosses_1 rfl (Nat.le_of_ble_eq_true rfl) rfl ?_
  refine r_iconst (pc := 2) dX10_findLosses_2 ci_0 ?_
  refine r_istore_n (pc := 3) (lv' := [(3, .int 0), (2, .int 0), (0, .ref (xa E 0)), (1, .int v1)]) dX10_findLosses_3 rfl (Nat.le_of_ble_eq_true rfl) rfl ?_
  refine r_sub [2, 3, 1, 0] rfl ?_
  exact gX10_findLosses_4 E 300 σ v1 0 0 h
theorem ceX10_findLosses (l : Launch) (d : SD) (σ : Mem) (v1 : Int32)  {r : Mem} (h : fX10_findLosses σ v1 = some r) : Me l d LM yX10_findLosses qX10_findLosses σ [.ref (d.2.2.1 0), .int v1] (none, r) := me_of (avs := fun d => [.ref (d.2.2.1 0), .int v1]) (by decide) rfl (Nat.le_of_ble_eq_true rfl) (fun E => gX10_findLosses E σ v1  h)
def fX10_lose_47 (c2 : Mem → Int32 → Option Mem) (σ : Mem) (v1 : Int32) (t1 : Int32) (t2 : Int32) : Option Mem :=
  if inb t1 10 = true then
  (bm (mset σ 22 t1.toNatClampNeg t2) (fun m1 =>
  if inb v1 10 = true then
  (if m1 22 v1.toNatClampNeg = 0 then
    (if inb v1 10 = true then
    (bm (mset m1 23 v1.toNatClampNeg 0) (fun m2 =>
    if inb v1 10 = true then
    (bm (mset m2 24 v1.toNatClampNeg 0) (fun m3 =>
    c2 m3 (v1 + 1)))
    else none))
    else none)
  else
    (c2 m1 (v1 + 1)))
  else none))
  else none
set_option maxHeartbeats 4000000 in
set_option maxRecDepth 20000 in
theorem gX10_lose_47 (E : XE) (c2 : Mem → Int32 → Option Mem) {r : Mem} (hc2 : ∀ (σ : Mem) (v1 : Int32), c2 σ v1 = some r → G E LM qX10_lose σ 2 [(0, .ref (xa E 0)), (1, .int v1)] [] (none, r)) (σ : Mem) (v1 : Int32) (t1 : Int32) (t2 : Int32)  (h : fX10_lose_47 c2 σ v1 t1 t2 = some r) : G E LM qX10_lose σ 47 [(0, .ref (xa E 0)), (1, .int v1)] [.int t2, .int t1, .ref (xa E 22)] (none, r) := by
  unfold fX10_lose_47 at h
  refine inb_k h (fun b1 h => ?_)
  refine r_iast (pc := 47) (i := 22) (t1.toNatClampNeg) (t2) rfl rfl nLM_22 kLM_22 lLM_22 b1 dX10_lose_47 ?_
  refine g_bm h (fun m1 em1 h => ?_)
  refine r_aload_n (pc := 48) 0 dX10_lose_48 rfl rfl ?_
  refine r_getR (pc := 49) (i := 0) (j := 22) fdRX10_74 nLM_0 kLM_0 (by decide) rfl dX10_lose_49 ?_
  refine r_iload_n (pc := 52) 1 dX10_lose_52 rfl rfl ?_
  refine inb_k h (fun b2 h => ?_)
  refine r_iald (pc := 53) (i := 22) (v1.toNatClampNeg) rfl nLM_22 kLM_22 lLM_22 b2 dX10_lose_53 ?_
  refine r_if_ne (pc := 54) 71 dX10_lose_54 (by decide) h (fun c1 h => ?_) (fun c1 h => ?_)
  · refine r_aload_n (pc := 57) 0 dX10_lose_57 rfl rfl ?_
    refine r_getR (pc := 58) (i := 0) (j := 23) fdRX10_77 nLM_0 kLM_0 (by decide) rfl dX10_lose_58 ?_
    refine r_iload_n (pc := 61) 1 dX10_lose_61 rfl rfl ?_
    refine r_iconst (pc := 62) dX10_lose_62 ci_0 ?_
    refine inb_k h (fun b3 h => ?_)
    refine r_iast (pc := 63) (i := 23) (v1.toNatClampNeg) (0) rfl rfl nLM_23 kLM_23 lLM_23 b3 dX10_lose_63 ?_
    refine g_bm h (fun m2 em2 h => ?_)
    refine r_aload_n (pc := 64) 0 dX10_lose_64 rfl rfl ?_
    refine r_getR (pc := 65) (i := 0) (j := 24) fdRX10_80 nLM_0 kLM_0 (by decide) rfl dX10_lose_65 ?_
    refine r_iload_n (pc := 68) 1 dX10_lose_68 rfl rfl ?_
    refine r_iconst (pc := 69) dX10_lose_69 ci_0 ?_
    refine inb_k h (fun b4 h => ?_)
    refine r_iast (pc := 70) (i := 24) (v1.toNatClampNeg) (0) rfl rfl nLM_24 kLM_24 lLM_24 b4 dX10_lose_70 ?_
    refine g_bm h (fun m3 em3 h => ?_)
    refine r_iinc (pc := 71) (v := v1 + 1) (lv' := [(1, .int (v1 + 1)), (0, .ref (xa E 0))]) 1 dX10_lose_71 rfl (by rw [ci_1]) (Nat.le_of_ble_eq_true rfl) rfl ?_
    refine r_goto (pc := 74) 2 dX10_lose_74 (by decide) ?_
    refine r_sub [1, 0] rfl ?_
    exact hc2 m3 (v1 + 1) h
  · refine r_iinc (pc := 71) (v := v1 + 1) (lv' := [(1, .int (v1 + 1)), (0, .ref (xa E 0))]) 1 dX10_lose_71 rfl (by rw [ci_1]) (Nat.le_of_ble_eq_true rfl) rfl ?_
    refine r_goto (pc := 74) 2 dX10_lose_74 (by decide) ?_
    refine r_sub [1, 0] rfl ?_
    exact hc2 m1 (v1 + 1) h
def fX10_lose_2  : Nat → Mem → Int32 → Option Mem
  | 0, _, _ => none
  | n + 1, σ, v1 =>
    if σ 0 1 ≤ v1 then
      (some σ)
    else
      (if inb v1 10 = true then
      (if inb v1 10 = true then
      (if σ 22 v1.toNatClampNeg ≤ σ 25 v1.toNatClampNeg then
        (fX10_lose_47 (fun σ_ v1_ => fX10_lose_2 n σ_ v1_) σ v1 v1 0)
      else
        (if inb v1 10 = true then
        (if inb v1 10 = true then
        (fX10_lose_47 (fun σ_ v1_ => fX10_lose_2 n σ_ v1_) σ v1 v1 ((σ 22 v1.toNatClampNeg) - (σ 25 v1.toNatClampNeg)))
        else none)
        else none))
      else none)
      else none)
set_option maxHeartbeats 4000000 in
set_option maxRecDepth 20000 in
theorem gX10_lose_2 (E : XE)  {r : Mem}  : ∀ (n : Nat) (σ : Mem) (v1 : Int32), fX10_lose_2 n σ v1 = some r → G E LM qX10_lose σ 2 [(0, .ref (xa E 0)), (1, .int v1)] [] (none, r) := by
  intro n
  induction n with
  | zero => intro σ v1 h; cases h
  | succ n ih =>
    intro σ v1 h
    unfold fX10_lose_2 at h
    refine r_iload_n (pc := 2) 1 dX10_lose_2 rfl rfl ?_
    refine r_aload_n (pc := 3) 0 dX10_lose_3 rfl rfl ?_
    refine r_getI (pc := 4) (i := 0) fdRX10_96 nLM_0 kLM_0 (by decide) dX10_lose_4 ?_
    refine r_icmp_ge (pc := 7) 77 dX10_lose_7 (by decide) h (fun c1 h => ?_) (fun c1 h => ?_)
    · exact r_vret (pc := 77) rfl dX10_lose_77 (Option.some.inj h)
    · refine r_aload_n (pc := 10) 0 dX10_lose_10 rfl rfl ?_
      refine r_getR (pc := 11) (i := 0) (j := 22) fdRX10_74 nLM_0 kLM_0 (by decide) rfl dX10_lose_11 ?_
      refine r_iload_n (pc := 14) 1 dX10_lose_14 rfl rfl ?_
      refine r_aload_n (pc := 15) 0 dX10_lose_15 rfl rfl ?_
      refine r_getR (pc := 16) (i := 0) (j := 22) fdRX10_74 nLM_0 kLM_0 (by decide) rfl dX10_lose_16 ?_
      refine r_iload_n (pc := 19) 1 dX10_lose_19 rfl rfl ?_
      refine inb_k h (fun b1 h => ?_)
      refine r_iald (pc := 20) (i := 22) (v1.toNatClampNeg) rfl nLM_22 kLM_22 lLM_22 b1 dX10_lose_20 ?_
      refine r_aload_n (pc := 21) 0 dX10_lose_21 rfl rfl ?_
      refine r_getR (pc := 22) (i := 0) (j := 25) fdRX10_83 nLM_0 kLM_0 (by decide) rfl dX10_lose_22 ?_
      refine r_iload_n (pc := 25) 1 dX10_lose_25 rfl rfl ?_
      refine inb_k h (fun b2 h => ?_)
      refine r_iald (pc := 26) (i := 25) (v1.toNatClampNeg) rfl nLM_25 kLM_25 lLM_25 b2 dX10_lose_26 ?_
      refine r_icmp_le (pc := 27) 46 dX10_lose_27 (by decide) h (fun c2 h => ?_) (fun c2 h => ?_)
      · refine r_iconst (pc := 46) dX10_lose_46 ci_0 ?_
        exact gX10_lose_47 E (fun σ_ v1_ => fX10_lose_2 n σ_ v1_) ih σ v1 v1 0 h
      · refine r_aload_n (pc := 30) 0 dX10_lose_30 rfl rfl ?_
        refine r_getR (pc := 31) (i := 0) (j := 22) fdRX10_74 nLM_0 kLM_0 (by decide) rfl dX10_lose_31 ?_
        refine r_iload_n (pc := 34) 1 dX10_lose_34 rfl rfl ?_
        refine inb_k h (fun b3 h => ?_)
        refine r_iald (pc := 35) (i := 22) (v1.toNatClampNeg) rfl nLM_22 kLM_22 lLM_22 b3 dX10_lose_35 ?_
        refine r_aload_n (pc := 36) 0 dX10_lose_36 rfl rfl ?_
        refine r_getR (pc := 37) (i := 0) (j := 25) fdRX10_83 nLM_0 kLM_0 (by decide) rfl dX10_lose_37 ?_
        refine r_iload_n (pc := 40) 1 dX10_lose_40 rfl rfl ?_
        refine inb_k h (fun b4 h => ?_)
        refine r_iald (pc := 41) (i := 25) (v1.toNatClampNeg) rfl nLM_25 kLM_25 lLM_25 b4 dX10_lose_41 ?_
        refine r_isub (pc := 42) dX10_lose_42 ?_
        refine r_goto (pc := 43) 47 dX10_lose_43 (by decide) ?_
        exact gX10_lose_47 E (fun σ_ v1_ => fX10_lose_2 n σ_ v1_) ih σ v1 v1 ((σ 22 v1.toNatClampNeg) - (σ 25 v1.toNatClampNeg)) h
def fX10_lose (σ : Mem)  : Option Mem :=
  fX10_lose_2 300 σ 0
set_option maxHeartbeats 4000000 in
set_option maxRecDepth 20000 in
theorem gX10_lose (E : XE) {r : Mem} (σ : Mem)   (h : fX10_lose σ  = some r) : G E LM qX10_lose σ 0 [(0, .ref (xa E 0))] [] (none, r) := by
  unfold fX10_lose at h
  refine r_iconst (pc := 0) dX10_lose_0 ci_0 ?_
  refine r_istore_n (pc := 1) (lv' := [(1, .int 0), (0, .ref (xa E 0))]) dX10_lose_1 rfl (Nat.le_of_ble_eq_true rfl) rfl ?_
  refine r_sub [1, 0] rfl ?_
  exact gX10_lose_2 E 300 σ 0 h
theorem ceX10_lose (l : Launch) (d : SD) (σ : Mem)   {r : Mem} (h : fX10_lose σ  = some r) : Me l d LM yX10_lose qX10_lose σ [.ref (d.2.2.1 0)] (none, r) := me_of (avs := fun d => [.ref (d.2.2.1 0)]) (by decide) rfl (Nat.le_of_ble_eq_true rfl) (fun E => gX10_lose E σ   h)
def fX10_toldOf_23  : Nat → Mem → Int32 → Int32 → Option (Int32 × Mem)
  | 0, _, _, _ => none
  | n + 1, σ, v1, v2 =>
    if 200 < v2 then
      (some ((-1000000005), σ))
    else
      (if (σ 0 0) + 60 < v2 then
        (some ((-1000000005), σ))
      else
        (bo (fX10_findLosses σ v2) (fun z1 =>
        bo (fX10_lose z1) (fun z2 =>
        if inb v1 10 = true then
        (if z2 22 v1.toNatClampNeg = 0 then
          (some (v2, z2))
        else
          (fX10_toldOf_23 n z2 v1 (v2 + 1)))
        else none))))
set_option maxHeartbeats 4000000 in
set_option maxRecDepth 20000 in
theorem gX10_toldOf_23 (E : XE)  {r : Int32 × Mem}  : ∀ (n : Nat) (σ : Mem) (v1 : Int32) (v2 : Int32), fX10_toldOf_23 n σ v1 v2 = some r → G E LM qX10_toldOf σ 23 [(0, .ref (xa E 0)), (1, .int v1), (2, .int v2)] [] (some r.1, r.2) := by
  intro n
  induction n with
  | zero => intro σ v1 v2 h; cases h
  | succ n ih =>
    intro σ v1 v2 h
    unfold fX10_toldOf_23 at h
    refine r_iload_n (pc := 23) 2 dX10_toldOf_23 rfl rfl ?_
    refine r_sipush (pc := 24) dX10_toldOf_24 cs_200 ?_
    refine r_icmp_gt (pc := 27) 67 dX10_toldOf_27 (by decide) h (fun c1 h => ?_) (fun c1 h => ?_)
    · refine r_ldc (pc := 67) w_925 dX10_toldOf_67 ?_
      exact r_iretW (pc := 69) rfl dX10_toldOf_69 h
    · refine r_iload_n (pc := 30) 2 dX10_toldOf_30 rfl rfl ?_
      refine r_aload_n (pc := 31) 0 dX10_toldOf_31 rfl rfl ?_
      refine r_getI (pc := 32) (i := 0) fdRX10_103 nLM_0 kLM_0 (by decide) dX10_toldOf_32 ?_
      refine r_bipush (pc := 35) dX10_toldOf_35 cb_60 ?_
      refine r_iadd (pc := 37) dX10_toldOf_37 ?_
      refine r_icmp_gt (pc := 38) 67 dX10_toldOf_38 (by decide) h (fun c2 h => ?_) (fun c2 h => ?_)
      · refine r_ldc (pc := 67) w_925 dX10_toldOf_67 ?_
        exact r_iretW (pc := 69) rfl dX10_toldOf_69 h
      · refine r_aload_n (pc := 41) 0 dX10_toldOf_41 rfl rfl ?_
        refine r_iload_n (pc := 42) 2 dX10_toldOf_42 rfl rfl ?_
        refine bo_k h (fun z1 hz1 h => ?_)
        refine r_callV (pc := 43) (i := 0) (As := [.int v2]) (rest := []) lkRX10_121 (ceX10_findLosses _ _ σ v2 hz1) nLM_0 kLM_0 (by decide) rfl ⟨Nat.le_of_ble_eq_true rfl, Nat.le_of_ble_eq_true rfl⟩ rfl rfl (Nat.le_of_ble_eq_true rfl) dX10_toldOf_43 rfl ?_
        refine r_aload_n (pc := 46) 0 dX10_toldOf_46 rfl rfl ?_
        refine bo_k h (fun z2 hz2 h => ?_)
        refine r_callV (pc := 47) (i := 0) (As := []) (rest := []) lkRX10_125 (ceX10_lose _ _ z1 hz2) nLM_0 kLM_0 (by decide) rfl ⟨Nat.le_of_ble_eq_true rfl, Nat.le_of_ble_eq_true rfl⟩ rfl rfl (Nat.le_of_ble_eq_true rfl) dX10_toldOf_47 rfl ?_
        refine r_aload_n (pc := 50) 0 dX10_toldOf_50 rfl rfl ?_
        refine r_getR (pc := 51) (i := 0) (j := 22) fdRX10_74 nLM_0 kLM_0 (by decide) rfl dX10_toldOf_51 ?_
        refine r_iload_n (pc := 54) 1 dX10_toldOf_54 rfl rfl ?_
        refine inb_k h (fun b1 h => ?_)
        refine r_iald (pc := 55) (i := 22) (v1.toNatClampNeg) rfl nLM_22 kLM_22 lLM_22 b1 dX10_toldOf_55 ?_
        refine r_if_ne (pc := 56) 61 dX10_toldOf_56 (by decide) h (fun c3 h => ?_) (fun c3 h => ?_)
        · refine r_iload_n (pc := 59) 2 dX10_toldOf_59 rfl rfl ?_
          exact r_iretW (pc := 60) rfl dX10_toldOf_60 h
        · refine r_iinc (pc := 61) (v := v2 + 1) (lv' := [(2, .int (v2 + 1)), (0, .ref (xa E 0)), (1, .int v1)]) 2 dX10_toldOf_61 rfl (by rw [ci_1]) (Nat.le_of_ble_eq_true rfl) rfl ?_
          refine r_goto (pc := 64) 23 dX10_toldOf_64 (by decide) ?_
          refine r_sub [1, 2, 0] rfl ?_
          exact ih z2 v1 (v2 + 1) h
def fX10_toldOf (σ : Mem) (v1 : Int32) : Option (Int32 × Mem) :=
  bo (fX10_asItIs σ) (fun z1 =>
  if inb v1 10 = true then
  (if z1 22 v1.toNatClampNeg = 0 then
    (some ((-1000000005), z1))
  else
    (bi ((z1 0 0) + 1) (fun x1 =>
    fX10_toldOf_23 300 z1 v1 x1)))
  else none)
set_option maxHeartbeats 4000000 in
set_option maxRecDepth 20000 in
theorem gX10_toldOf (E : XE) {r : Int32 × Mem} (σ : Mem) (v1 : Int32)  (h : fX10_toldOf σ v1 = some r) : G E LM qX10_toldOf σ 0 [(0, .ref (xa E 0)), (1, .int v1)] [] (some r.1, r.2) := by
  unfold fX10_toldOf at h
  refine r_aload_n (pc := 0) 0 dX10_toldOf_0 rfl rfl ?_
  refine bo_k h (fun z1 hz1 h => ?_)
  refine r_callV (pc := 1) (i := 0) (As := []) (rest := []) lkRX10_117 (ceX10_asItIs _ _ σ hz1) nLM_0 kLM_0 (by decide) rfl ⟨Nat.le_of_ble_eq_true rfl, Nat.le_of_ble_eq_true rfl⟩ rfl rfl (Nat.le_of_ble_eq_true rfl) dX10_toldOf_1 rfl ?_
  refine r_aload_n (pc := 4) 0 dX10_toldOf_4 rfl rfl ?_
  refine r_getR (pc := 5) (i := 0) (j := 22) fdRX10_74 nLM_0 kLM_0 (by decide) rfl dX10_toldOf_5 ?_
  refine r_iload_n (pc := 8) 1 dX10_toldOf_8 rfl rfl ?_
  refine inb_k h (fun b1 h => ?_)
  refine r_iald (pc := 9) (i := 22) (v1.toNatClampNeg) rfl nLM_22 kLM_22 lLM_22 b1 dX10_toldOf_9 ?_
  refine r_if_ne (pc := 10) 16 dX10_toldOf_10 (by decide) h (fun c1 h => ?_) (fun c1 h => ?_)
  · refine r_ldc (pc := 13) w_925 dX10_toldOf_13 ?_
    exact r_iretW (pc := 15) rfl dX10_toldOf_15 h
  · refine r_aload_n (pc := 16) 0 dX10_toldOf_16 rfl rfl ?_
    refine r_getI (pc := 17) (i := 0) fdRX10_103 nLM_0 kLM_0 (by decide) dX10_toldOf_17 ?_
    refine r_iconst (pc := 20) dX10_toldOf_20 ci_1 ?_
    refine r_iadd (pc := 21) dX10_toldOf_21 ?_
    refine g_bi h (fun x1 ex1 h => ?_)
    refine r_istore_n (pc := 22) (lv' := [(2, .int x1), (0, .ref (xa E 0)), (1, .int v1)]) dX10_toldOf_22 rfl (Nat.le_of_ble_eq_true rfl) rfl ?_
    refine r_sub [1, 2, 0] rfl ?_
    exact gX10_toldOf_23 E 300 z1 v1 x1 h
theorem ceX10_toldOf (l : Launch) (d : SD) (σ : Mem) (v1 : Int32)  {r : Int32 × Mem} (h : fX10_toldOf σ v1 = some r) : Me l d LM yX10_toldOf qX10_toldOf σ [.ref (d.2.2.1 0), .int v1] (some r.1, r.2) := me_of (avs := fun d => [.ref (d.2.2.1 0), .int v1]) (by decide) rfl (Nat.le_of_ble_eq_true rfl) (fun E => gX10_toldOf E σ v1  h)
def fX10_spentAt_4  : Nat → Mem → Int32 → Int32 → Int32 → Option Int32
  | 0, _, _, _, _ => none
  | n + 1, σ, v1, v2, v3 =>
    if σ 0 13 ≤ v3 then
      (some (v2))
    else
      (if inb ((12 * v3) + v1) 240 = true then
      (bi (v2 + (σ 19 (((12 * v3) + v1).toNatClampNeg))) (fun x1 =>
      fX10_spentAt_4 n σ v1 x1 (v3 + 1)))
      else none)
set_option maxHeartbeats 4000000 in
set_option maxRecDepth 20000 in
theorem gX10_spentAt_4 (E : XE)  {r : Int32}  (n : Nat) (σ : Mem) : ∀ (v1 : Int32) (v2 : Int32) (v3 : Int32), fX10_spentAt_4 n σ v1 v2 v3 = some r → G E LM qX10_spentAt σ 4 [(0, .ref (xa E 0)), (1, .int v1), (2, .int v2), (3, .int v3)] [] (some r, σ) := by
  induction n with
  | zero => intro v1 v2 v3 h; cases h
  | succ n ih =>
    intro v1 v2 v3 h
    unfold fX10_spentAt_4 at h
    refine r_iload_n (pc := 4) 3 dX10_spentAt_4 rfl rfl ?_
    refine r_aload_n (pc := 5) 0 dX10_spentAt_5 rfl rfl ?_
    refine r_getI (pc := 6) (i := 0) fdRX10_92 nLM_0 kLM_0 (by decide) dX10_spentAt_6 ?_
    refine r_icmp_ge (pc := 9) 32 dX10_spentAt_9 (by decide) h (fun c1 h => ?_) (fun c1 h => ?_)
    · refine r_iload_n (pc := 32) 2 dX10_spentAt_32 rfl rfl ?_
      exact r_iret (pc := 33) rfl dX10_spentAt_33 (Option.some.inj h) rfl
    · refine r_iload_n (pc := 12) 2 dX10_spentAt_12 rfl rfl ?_
      refine r_aload_n (pc := 13) 0 dX10_spentAt_13 rfl rfl ?_
      refine r_getR (pc := 14) (i := 0) (j := 19) fdRX10_65 nLM_0 kLM_0 (by decide) rfl dX10_spentAt_14 ?_
      refine r_bipush (pc := 17) dX10_spentAt_17 cb_12 ?_
      refine r_iload_n (pc := 19) 3 dX10_spentAt_19 rfl rfl ?_
      refine r_imul (pc := 20) dX10_spentAt_20 ?_
      refine r_iload_n (pc := 21) 1 dX10_spentAt_21 rfl rfl ?_
      refine r_iadd (pc := 22) dX10_spentAt_22 ?_
      refine inb_k h (fun b1 h => ?_)
      refine r_iald (pc := 23) (i := 19) (((12 * v3) + v1).toNatClampNeg) rfl nLM_19 kLM_19 lLM_19 b1 dX10_spentAt_23 ?_
      refine r_iadd (pc := 24) dX10_spentAt_24 ?_
      refine g_bi h (fun x1 ex1 h => ?_)
      refine r_istore_n (pc := 25) (lv' := [(2, .int x1), (0, .ref (xa E 0)), (1, .int v1), (3, .int v3)]) dX10_spentAt_25 rfl (Nat.le_of_ble_eq_true rfl) rfl ?_
      refine r_iinc (pc := 26) (v := v3 + 1) (lv' := [(3, .int (v3 + 1)), (2, .int x1), (0, .ref (xa E 0)), (1, .int v1)]) 3 dX10_spentAt_26 rfl (by rw [ci_1]) (Nat.le_of_ble_eq_true rfl) rfl ?_
      refine r_goto (pc := 29) 4 dX10_spentAt_29 (by decide) ?_
      refine r_sub [2, 3, 1, 0] rfl ?_
      exact ih v1 x1 (v3 + 1) h
def fX10_spentAt (σ : Mem) (v1 : Int32) : Option Int32 :=
  fX10_spentAt_4 300 σ v1 0 0
set_option maxHeartbeats 4000000 in
set_option maxRecDepth 20000 in
theorem gX10_spentAt (E : XE) {r : Int32} (σ : Mem) (v1 : Int32)  (h : fX10_spentAt σ v1 = some r) : G E LM qX10_spentAt σ 0 [(0, .ref (xa E 0)), (1, .int v1)] [] (some r, σ) := by
  unfold fX10_spentAt at h
  refine r_iconst (pc := 0) dX10_spentAt_0 ci_0 ?_
  refine r_istore_n (pc := 1) (lv' := [(2, .int 0), (0, .ref (xa E 0)), (1, .int v1)]) dX10_spentAt_1 rfl (Nat.le_of_ble_eq_true rfl) rfl ?_
  refine r_iconst (pc := 2) dX10_spentAt_2 ci_0 ?_
  refine r_istore_n (pc := 3) (lv' := [(3, .int 0), (2, .int 0), (0, .ref (xa E 0)), (1, .int v1)]) dX10_spentAt_3 rfl (Nat.le_of_ble_eq_true rfl) rfl ?_
  refine r_sub [2, 3, 1, 0] rfl ?_
  exact gX10_spentAt_4 E 300 σ v1 0 0 h
theorem ceX10_spentAt (l : Launch) (d : SD) (σ : Mem) (v1 : Int32)  {r : Int32} (h : fX10_spentAt σ v1 = some r) : Me l d LM yX10_spentAt qX10_spentAt σ [.ref (d.2.2.1 0), .int v1] (some r, σ) := me_of (avs := fun d => [.ref (d.2.2.1 0), .int v1]) (by decide) rfl (Nat.le_of_ble_eq_true rfl) (fun E => gX10_spentAt E σ v1  h)
def fX10_about (σ : Mem) (v1 : Int32) (v2 : Int32) : Option (Int32 × Mem) :=
  if fX10_isArch σ v1 = 0 then
    (some ((-1000000001), σ))
  else
    (if fX10_isIn σ v2 0 7 = 0 then
      (some ((-1000000001), σ))
    else
      (if v2 = 0 then
        (if inb v1 10 = true then
        (some (σ 1 v1.toNatClampNeg, σ))
        else none)
      else
        if v2 = 1 then
        (if inb v1 10 = true then
        (some (σ 2 v1.toNatClampNeg, σ))
        else none)
      else
        if v2 = 2 then
        (if inb v1 10 = true then
        (some (σ 3 v1.toNatClampNeg, σ))
        else none)
      else
        if v2 = 3 then
        (if inb v1 10 = true then
        (some (σ 4 v1.toNatClampNeg, σ))
        else none)
      else
        if v2 = 4 then
        (if inb v1 10 = true then
        (if σ 2 v1.toNatClampNeg = 0 then
          (some (1, σ))
        else
          (some (0, σ)))
        else none)
      else
        if v2 = 5 then
        (bo (fX10_asItIs σ) (fun z1 =>
        bo (fX10_findLosses z1 (z1 0 0)) (fun z2 =>
        if inb v1 10 = true then
        (some (z2 25 v1.toNatClampNeg, z2))
        else none)))
      else
        if v2 = 6 then
        (bo (fX10_toldOf σ v1) (fun z3 =>
        some (z3.1, z3.2)))
      else
        (bo (fX10_spentAt σ (2 + v1)) (fun z4 =>
      some (z4, σ)))))
set_option maxHeartbeats 4000000 in
set_option maxRecDepth 20000 in
theorem gX10_about (E : XE) {r : Int32 × Mem} (σ : Mem) (v1 : Int32) (v2 : Int32)  (h : fX10_about σ v1 v2 = some r) : G E LM qX10_about σ 0 [(0, .ref (xa E 0)), (1, .int v1), (2, .int v2)] [] (some r.1, r.2) := by
  unfold fX10_about at h
  refine r_aload_n (pc := 0) 0 dX10_about_0 rfl rfl ?_
  refine r_iload_n (pc := 1) 1 dX10_about_1 rfl rfl ?_
  refine r_callV (pc := 2) (i := 0) (As := [.int v1]) (rest := []) lkRX10_108 (ceX10_isArch _ _ σ v1 rfl) nLM_0 kLM_0 (by decide) rfl ⟨Nat.le_of_ble_eq_true rfl, Nat.le_of_ble_eq_true rfl⟩ rfl rfl (Nat.le_of_ble_eq_true rfl) dX10_about_2 rfl ?_
  refine r_if_eq (pc := 5) 18 dX10_about_5 (by decide) h (fun c1 h => ?_) (fun c1 h => ?_)
  · refine r_ldc (pc := 18) w_894 dX10_about_18 ?_
    exact r_iretW (pc := 20) rfl dX10_about_20 h
  · refine r_iload_n (pc := 8) 2 dX10_about_8 rfl rfl ?_
    refine r_iconst (pc := 9) dX10_about_9 ci_0 ?_
    refine r_bipush (pc := 10) dX10_about_10 cb_7 ?_
    refine r_callS (pc := 12) (As := [.int v2, .int 0, .int 7]) (rest := []) lkRX10_99 (ceX10_isIn _ _ σ v2 0 7 rfl) ⟨Nat.le_of_ble_eq_true rfl, Nat.le_of_ble_eq_true rfl⟩ rfl rfl (Nat.le_of_ble_eq_true rfl) dX10_about_12 rfl ?_
    refine r_if_ne (pc := 15) 21 dX10_about_15 (by decide) h (fun c2 h => ?_) (fun c2 h => ?_)
    · refine r_ldc (pc := 18) w_894 dX10_about_18 ?_
      exact r_iretW (pc := 20) rfl dX10_about_20 h
    · refine r_iload_n (pc := 21) 2 dX10_about_21 rfl rfl ?_
      refine ite_k h (fun c3 h => ?_) (fun c3 h => ?_)
      · refine r_tabIn (pc := 22) (off := 42) 64 c3 dX10_about_22 (by decide) (by decide) (by decide) (by decide) ?_
        refine r_aload_n (pc := 64) 0 dX10_about_64 rfl rfl ?_
        refine r_getR (pc := 65) (i := 0) (j := 1) fdRX10_7 nLM_0 kLM_0 (by decide) rfl dX10_about_65 ?_
        refine r_iload_n (pc := 68) 1 dX10_about_68 rfl rfl ?_
        refine inb_k h (fun b1 h => ?_)
        refine r_iald (pc := 69) (i := 1) (v1.toNatClampNeg) rfl nLM_1 kLM_1 lLM_1 b1 dX10_about_69 ?_
        exact r_iretW (pc := 70) rfl dX10_about_70 h
      refine ite_k h (fun c4 h => ?_) (fun c4 h => ?_)
      · refine r_tabIn (pc := 22) (off := 49) 71 c4 dX10_about_22 (by decide) (by decide) (by decide) (by decide) ?_
        refine r_aload_n (pc := 71) 0 dX10_about_71 rfl rfl ?_
        refine r_getR (pc := 72) (i := 0) (j := 2) fdRX10_13 nLM_0 kLM_0 (by decide) rfl dX10_about_72 ?_
        refine r_iload_n (pc := 75) 1 dX10_about_75 rfl rfl ?_
        refine inb_k h (fun b2 h => ?_)
        refine r_iald (pc := 76) (i := 2) (v1.toNatClampNeg) rfl nLM_2 kLM_2 lLM_2 b2 dX10_about_76 ?_
        exact r_iretW (pc := 77) rfl dX10_about_77 h
      refine ite_k h (fun c5 h => ?_) (fun c5 h => ?_)
      · refine r_tabIn (pc := 22) (off := 56) 78 c5 dX10_about_22 (by decide) (by decide) (by decide) (by decide) ?_
        refine r_aload_n (pc := 78) 0 dX10_about_78 rfl rfl ?_
        refine r_getR (pc := 79) (i := 0) (j := 3) fdRX10_16 nLM_0 kLM_0 (by decide) rfl dX10_about_79 ?_
        refine r_iload_n (pc := 82) 1 dX10_about_82 rfl rfl ?_
        refine inb_k h (fun b3 h => ?_)
        refine r_iald (pc := 83) (i := 3) (v1.toNatClampNeg) rfl nLM_3 kLM_3 lLM_3 b3 dX10_about_83 ?_
        exact r_iretW (pc := 84) rfl dX10_about_84 h
      refine ite_k h (fun c6 h => ?_) (fun c6 h => ?_)
      · refine r_tabIn (pc := 22) (off := 63) 85 c6 dX10_about_22 (by decide) (by decide) (by decide) (by decide) ?_
        refine r_aload_n (pc := 85) 0 dX10_about_85 rfl rfl ?_
        refine r_getR (pc := 86) (i := 0) (j := 4) fdRX10_19 nLM_0 kLM_0 (by decide) rfl dX10_about_86 ?_
        refine r_iload_n (pc := 89) 1 dX10_about_89 rfl rfl ?_
        refine inb_k h (fun b4 h => ?_)
        refine r_iald (pc := 90) (i := 4) (v1.toNatClampNeg) rfl nLM_4 kLM_4 lLM_4 b4 dX10_about_90 ?_
        exact r_iretW (pc := 91) rfl dX10_about_91 h
      refine ite_k h (fun c7 h => ?_) (fun c7 h => ?_)
      · refine r_tabIn (pc := 22) (off := 70) 92 c7 dX10_about_22 (by decide) (by decide) (by decide) (by decide) ?_
        refine r_aload_n (pc := 92) 0 dX10_about_92 rfl rfl ?_
        refine r_getR (pc := 93) (i := 0) (j := 2) fdRX10_13 nLM_0 kLM_0 (by decide) rfl dX10_about_93 ?_
        refine r_iload_n (pc := 96) 1 dX10_about_96 rfl rfl ?_
        refine inb_k h (fun b5 h => ?_)
        refine r_iald (pc := 97) (i := 2) (v1.toNatClampNeg) rfl nLM_2 kLM_2 lLM_2 b5 dX10_about_97 ?_
        refine r_if_ne (pc := 98) 105 dX10_about_98 (by decide) h (fun c8 h => ?_) (fun c8 h => ?_)
        · refine r_iconst (pc := 101) dX10_about_101 ci_1 ?_
          refine r_goto (pc := 102) 106 dX10_about_102 (by decide) ?_
          exact r_iretW (pc := 106) rfl dX10_about_106 h
        · refine r_iconst (pc := 105) dX10_about_105 ci_0 ?_
          exact r_iretW (pc := 106) rfl dX10_about_106 h
      refine ite_k h (fun c9 h => ?_) (fun c9 h => ?_)
      · refine r_tabIn (pc := 22) (off := 85) 107 c9 dX10_about_22 (by decide) (by decide) (by decide) (by decide) ?_
        refine r_aload_n (pc := 107) 0 dX10_about_107 rfl rfl ?_
        refine bo_k h (fun z1 hz1 h => ?_)
        refine r_callV (pc := 108) (i := 0) (As := []) (rest := []) lkRX10_117 (ceX10_asItIs _ _ σ hz1) nLM_0 kLM_0 (by decide) rfl ⟨Nat.le_of_ble_eq_true rfl, Nat.le_of_ble_eq_true rfl⟩ rfl rfl (Nat.le_of_ble_eq_true rfl) dX10_about_108 rfl ?_
        refine r_aload_n (pc := 111) 0 dX10_about_111 rfl rfl ?_
        refine r_aload_n (pc := 112) 0 dX10_about_112 rfl rfl ?_
        refine r_getI (pc := 113) (i := 0) fdRX10_103 nLM_0 kLM_0 (by decide) dX10_about_113 ?_
        refine bo_k h (fun z2 hz2 h => ?_)
        refine r_callV (pc := 116) (i := 0) (As := [.int (z1 0 0)]) (rest := []) lkRX10_121 (ceX10_findLosses _ _ z1 (z1 0 0) hz2) nLM_0 kLM_0 (by decide) rfl ⟨Nat.le_of_ble_eq_true rfl, Nat.le_of_ble_eq_true rfl⟩ rfl rfl (Nat.le_of_ble_eq_true rfl) dX10_about_116 rfl ?_
        refine r_aload_n (pc := 119) 0 dX10_about_119 rfl rfl ?_
        refine r_getR (pc := 120) (i := 0) (j := 25) fdRX10_83 nLM_0 kLM_0 (by decide) rfl dX10_about_120 ?_
        refine r_iload_n (pc := 123) 1 dX10_about_123 rfl rfl ?_
        refine inb_k h (fun b6 h => ?_)
        refine r_iald (pc := 124) (i := 25) (v1.toNatClampNeg) rfl nLM_25 kLM_25 lLM_25 b6 dX10_about_124 ?_
        exact r_iretW (pc := 125) rfl dX10_about_125 h
      refine ite_k h (fun c10 h => ?_) (fun c10 h => ?_)
      · refine r_tabIn (pc := 22) (off := 104) 126 c10 dX10_about_22 (by decide) (by decide) (by decide) (by decide) ?_
        refine r_aload_n (pc := 126) 0 dX10_about_126 rfl rfl ?_
        refine r_iload_n (pc := 127) 1 dX10_about_127 rfl rfl ?_
        refine bo_k h (fun z3 hz3 h => ?_)
        refine r_callV (pc := 128) (i := 0) (As := [.int v1]) (rest := []) lkRX10_128 (ceX10_toldOf _ _ σ v1 hz3) nLM_0 kLM_0 (by decide) rfl ⟨Nat.le_of_ble_eq_true rfl, Nat.le_of_ble_eq_true rfl⟩ rfl rfl (Nat.le_of_ble_eq_true rfl) dX10_about_128 rfl ?_
        exact r_iretW (pc := 131) rfl dX10_about_131 h
      refine r_tabOut (pc := 22) 132 dX10_about_22 (by have ec3 := ti_ne (z := 0) c3 (by decide); have ec4 := ti_ne (z := 1) c4 (by decide); have ec5 := ti_ne (z := 2) c5 (by decide); have ec6 := ti_ne (z := 3) c6 (by decide); have ec7 := ti_ne (z := 4) c7 (by decide); have ec9 := ti_ne (z := 5) c9 (by decide); have ec10 := ti_ne (z := 6) c10 (by decide); omega) (by decide) ?_
      refine r_aload_n (pc := 132) 0 dX10_about_132 rfl rfl ?_
      refine r_iconst (pc := 133) dX10_about_133 ci_2 ?_
      refine r_iload_n (pc := 134) 1 dX10_about_134 rfl rfl ?_
      refine r_iadd (pc := 135) dX10_about_135 ?_
      refine bo_k h (fun z4 hz4 h => ?_)
      refine r_callV (pc := 136) (i := 0) (As := [.int (2 + v1)]) (rest := []) lkRX10_132 (ceX10_spentAt _ _ σ (2 + v1) hz4) nLM_0 kLM_0 (by decide) rfl ⟨Nat.le_of_ble_eq_true rfl, Nat.le_of_ble_eq_true rfl⟩ rfl rfl (Nat.le_of_ble_eq_true rfl) dX10_about_136 rfl ?_
      exact r_iretW (pc := 139) rfl dX10_about_139 h
theorem ceX10_about (l : Launch) (d : SD) (σ : Mem) (v1 : Int32) (v2 : Int32)  {r : Int32 × Mem} (h : fX10_about σ v1 v2 = some r) : Me l d LM yX10_about qX10_about σ [.ref (d.2.2.1 0), .int v1, .int v2] (some r.1, r.2) := me_of (avs := fun d => [.ref (d.2.2.1 0), .int v1, .int v2]) (by decide) rfl (Nat.le_of_ble_eq_true rfl) (fun E => gX10_about E σ v1 v2  h)
def fX10_isOf (σ : Mem) (v1 : Int32) (v2 : Int32) : Option Int32 :=
  if fX10_isArch σ v1 = 0 then
    (some ((-1000000001)))
  else
    (if fX10_isIn σ v2 0 3 = 0 then
      (some ((-1000000001)))
    else
      (if v2 = 0 then
        (some (1))
      else
        (if inb v1 10 = true then
        (if v2 = σ 1 v1.toNatClampNeg then
          (some (1))
        else
          (if v2 = 2 then
            (if inb v1 10 = true then
            (if σ 1 v1.toNatClampNeg = 3 then
              (some (1))
            else
              (some (0)))
            else none)
          else
            (some (0))))
        else none)))
set_option maxHeartbeats 4000000 in
set_option maxRecDepth 20000 in
theorem gX10_isOf (E : XE) {r : Int32} (σ : Mem) (v1 : Int32) (v2 : Int32)  (h : fX10_isOf σ v1 v2 = some r) : G E LM qX10_isOf σ 0 [(0, .ref (xa E 0)), (1, .int v1), (2, .int v2)] [] (some r, σ) := by
  unfold fX10_isOf at h
  refine r_aload_n (pc := 0) 0 dX10_isOf_0 rfl rfl ?_
  refine r_iload_n (pc := 1) 1 dX10_isOf_1 rfl rfl ?_
  refine r_callV (pc := 2) (i := 0) (As := [.int v1]) (rest := []) lkRX10_108 (ceX10_isArch _ _ σ v1 rfl) nLM_0 kLM_0 (by decide) rfl ⟨Nat.le_of_ble_eq_true rfl, Nat.le_of_ble_eq_true rfl⟩ rfl rfl (Nat.le_of_ble_eq_true rfl) dX10_isOf_2 rfl ?_
  refine r_if_eq (pc := 5) 17 dX10_isOf_5 (by decide) h (fun c1 h => ?_) (fun c1 h => ?_)
  · refine r_ldc (pc := 17) w_894 dX10_isOf_17 ?_
    exact r_iret (pc := 19) rfl dX10_isOf_19 (Option.some.inj h) rfl
  · refine r_iload_n (pc := 8) 2 dX10_isOf_8 rfl rfl ?_
    refine r_iconst (pc := 9) dX10_isOf_9 ci_0 ?_
    refine r_iconst (pc := 10) dX10_isOf_10 ci_3 ?_
    refine r_callS (pc := 11) (As := [.int v2, .int 0, .int 3]) (rest := []) lkRX10_99 (ceX10_isIn _ _ σ v2 0 3 rfl) ⟨Nat.le_of_ble_eq_true rfl, Nat.le_of_ble_eq_true rfl⟩ rfl rfl (Nat.le_of_ble_eq_true rfl) dX10_isOf_11 rfl ?_
    refine r_if_ne (pc := 14) 20 dX10_isOf_14 (by decide) h (fun c2 h => ?_) (fun c2 h => ?_)
    · refine r_ldc (pc := 17) w_894 dX10_isOf_17 ?_
      exact r_iret (pc := 19) rfl dX10_isOf_19 (Option.some.inj h) rfl
    · refine r_iload_n (pc := 20) 2 dX10_isOf_20 rfl rfl ?_
      refine r_if_eq (pc := 21) 49 dX10_isOf_21 (by decide) h (fun c3 h => ?_) (fun c3 h => ?_)
      · refine r_iconst (pc := 49) dX10_isOf_49 ci_1 ?_
        refine r_goto (pc := 50) 54 dX10_isOf_50 (by decide) ?_
        exact r_iret (pc := 54) rfl dX10_isOf_54 (Option.some.inj h) rfl
      · refine r_iload_n (pc := 24) 2 dX10_isOf_24 rfl rfl ?_
        refine r_aload_n (pc := 25) 0 dX10_isOf_25 rfl rfl ?_
        refine r_getR (pc := 26) (i := 0) (j := 1) fdRX10_7 nLM_0 kLM_0 (by decide) rfl dX10_isOf_26 ?_
        refine r_iload_n (pc := 29) 1 dX10_isOf_29 rfl rfl ?_
        refine inb_k h (fun b1 h => ?_)
        refine r_iald (pc := 30) (i := 1) (v1.toNatClampNeg) rfl nLM_1 kLM_1 lLM_1 b1 dX10_isOf_30 ?_
        refine r_icmp_eq (pc := 31) 49 dX10_isOf_31 (by decide) h (fun c4 h => ?_) (fun c4 h => ?_)
        · refine r_iconst (pc := 49) dX10_isOf_49 ci_1 ?_
          refine r_goto (pc := 50) 54 dX10_isOf_50 (by decide) ?_
          exact r_iret (pc := 54) rfl dX10_isOf_54 (Option.some.inj h) rfl
        · refine r_iload_n (pc := 34) 2 dX10_isOf_34 rfl rfl ?_
          refine r_iconst (pc := 35) dX10_isOf_35 ci_2 ?_
          refine r_icmp_ne (pc := 36) 53 dX10_isOf_36 (by decide) h (fun c5 h => ?_) (fun c5 h => ?_)
          · refine r_aload_n (pc := 39) 0 dX10_isOf_39 rfl rfl ?_
            refine r_getR (pc := 40) (i := 0) (j := 1) fdRX10_7 nLM_0 kLM_0 (by decide) rfl dX10_isOf_40 ?_
            refine r_iload_n (pc := 43) 1 dX10_isOf_43 rfl rfl ?_
            refine inb_k h (fun b2 h => ?_)
            refine r_iald (pc := 44) (i := 1) (v1.toNatClampNeg) rfl nLM_1 kLM_1 lLM_1 b2 dX10_isOf_44 ?_
            refine r_iconst (pc := 45) dX10_isOf_45 ci_3 ?_
            refine r_icmp_ne (pc := 46) 53 dX10_isOf_46 (by decide) h (fun c6 h => ?_) (fun c6 h => ?_)
            · refine r_iconst (pc := 49) dX10_isOf_49 ci_1 ?_
              refine r_goto (pc := 50) 54 dX10_isOf_50 (by decide) ?_
              exact r_iret (pc := 54) rfl dX10_isOf_54 (Option.some.inj h) rfl
            · refine r_iconst (pc := 53) dX10_isOf_53 ci_0 ?_
              exact r_iret (pc := 54) rfl dX10_isOf_54 (Option.some.inj h) rfl
          · refine r_iconst (pc := 53) dX10_isOf_53 ci_0 ?_
            exact r_iret (pc := 54) rfl dX10_isOf_54 (Option.some.inj h) rfl
theorem ceX10_isOf (l : Launch) (d : SD) (σ : Mem) (v1 : Int32) (v2 : Int32)  {r : Int32} (h : fX10_isOf σ v1 v2 = some r) : Me l d LM yX10_isOf qX10_isOf σ [.ref (d.2.2.1 0), .int v1, .int v2] (some r, σ) := me_of (avs := fun d => [.ref (d.2.2.1 0), .int v1, .int v2]) (by decide) rfl (Nat.le_of_ble_eq_true rfl) (fun E => gX10_isOf E σ v1 v2  h)
def fX10_isSheet (σ : Mem) (v0 : Int32) : Int32 :=
  fX10_isIn σ v0 0 3
set_option maxHeartbeats 4000000 in
set_option maxRecDepth 20000 in
theorem gX10_isSheet (E : XE) {r : Int32} (σ : Mem) (v0 : Int32)  (h : fX10_isSheet σ v0 = r) : G E LM qX10_isSheet σ 0 [(0, .int v0)] [] (some r, σ) := by
  unfold fX10_isSheet at h
  refine r_iload_n (pc := 0) 0 dX10_isSheet_0 rfl rfl ?_
  refine r_iconst (pc := 1) dX10_isSheet_1 ci_0 ?_
  refine r_iconst (pc := 2) dX10_isSheet_2 ci_3 ?_
  refine r_callS (pc := 3) (As := [.int v0, .int 0, .int 3]) (rest := []) lkRX10_99 (ceX10_isIn _ _ σ v0 0 3 rfl) ⟨Nat.le_of_ble_eq_true rfl, Nat.le_of_ble_eq_true rfl⟩ rfl rfl (Nat.le_of_ble_eq_true rfl) dX10_isSheet_3 rfl ?_
  exact r_zret (pc := 6) rfl (nbX10_isIn) dX10_isSheet_6 h rfl
theorem ceX10_isSheet (l : Launch) (d : SD) (σ : Mem) (v0 : Int32)  {r : Int32} (h : fX10_isSheet σ v0 = r) : Me l d LM yX10_isSheet qX10_isSheet σ [.int v0] (some r, σ) := me_of (avs := fun d => [.int v0]) (by decide) rfl (Nat.le_of_ble_eq_true rfl) (fun E => gX10_isSheet E σ v0  h)
theorem nbX10_isSheet {σ : Mem} {v0 : Int32} : narrow .boolean (.int (fX10_isSheet σ v0)) = .int (fX10_isSheet σ v0) := by unfold fX10_isSheet; exact nbX10_isIn
def fX10_sheet_57  : Nat → Mem → Int32 → Int32 → Int32 → Option (Int32 × Mem)
  | 0, _, _, _, _ => none
  | n + 1, σ, v1, v3, v4 =>
    if v3 ≤ v4 then
      (some (v3, σ))
    else
      (if inb ((200 * v1) + v4) 800 = true then
      (bm (mset σ 9 (((200 * v1) + v4).toNatClampNeg) 0) (fun m1 =>
      fX10_sheet_57 n m1 v1 v3 (v4 + 1)))
      else none)
set_option maxHeartbeats 4000000 in
set_option maxRecDepth 20000 in
theorem gX10_sheet_57 (E : XE)  {r : Int32 × Mem}  : ∀ (n : Nat) (σ : Mem) (v1 : Int32) (v3 : Int32) (v4 : Int32), fX10_sheet_57 n σ v1 v3 v4 = some r → G E LM qX10_sheet σ 57 [(0, .ref (xa E 0)), (1, .int v1), (3, .int v3), (4, .int v4)] [] (some r.1, r.2) := by
  intro n
  induction n with
  | zero => intro σ v1 v3 v4 h; cases h
  | succ n ih =>
    intro σ v1 v3 v4 h
    unfold fX10_sheet_57 at h
    refine r_iload (pc := 57) 3 dX10_sheet_57 rfl ?_
    refine r_iload_n (pc := 59) 2 dX10_sheet_59 rfl rfl ?_
    refine r_icmp_ge (pc := 60) 83 dX10_sheet_60 (by decide) h (fun c1 h => ?_) (fun c1 h => ?_)
    · refine r_iload_n (pc := 83) 2 dX10_sheet_83 rfl rfl ?_
      exact r_iretW (pc := 84) rfl dX10_sheet_84 h
    · refine r_aload_n (pc := 63) 0 dX10_sheet_63 rfl rfl ?_
      refine r_getR (pc := 64) (i := 0) (j := 9) fdRX10_35 nLM_0 kLM_0 (by decide) rfl dX10_sheet_64 ?_
      refine r_sipush (pc := 67) dX10_sheet_67 cs_200 ?_
      refine r_iload_n (pc := 70) 1 dX10_sheet_70 rfl rfl ?_
      refine r_imul (pc := 71) dX10_sheet_71 ?_
      refine r_iload (pc := 72) 3 dX10_sheet_72 rfl ?_
      refine r_iadd (pc := 74) dX10_sheet_74 ?_
      refine r_iconst (pc := 75) dX10_sheet_75 ci_0 ?_
      refine inb_k h (fun b1 h => ?_)
      refine r_iast (pc := 76) (i := 9) (((200 * v1) + v4).toNatClampNeg) (0) rfl rfl nLM_9 kLM_9 lLM_9 b1 dX10_sheet_76 ?_
      refine g_bm h (fun m1 em1 h => ?_)
      refine r_iinc (pc := 77) (v := v4 + 1) (lv' := [(4, .int (v4 + 1)), (0, .ref (xa E 0)), (1, .int v1), (3, .int v3)]) 3 dX10_sheet_77 rfl (by rw [ci_1]) (Nat.le_of_ble_eq_true rfl) rfl ?_
      refine r_goto (pc := 80) 57 dX10_sheet_80 (by decide) ?_
      refine r_sub [1, 2, 3, 0] rfl ?_
      exact ih m1 v1 v3 (v4 + 1) h
def fX10_sheet (σ : Mem) (v1 : Int32) (v2 : Int32) (v3 : Int32) : Option (Int32 × Mem) :=
  if fX10_isSheet σ v1 = 0 then
    (some ((-1000000001), σ))
  else
    (if fX10_isIn σ v2 0 2 = 0 then
      (some ((-1000000001), σ))
    else
      (if v3 ≤ 200 then
        (if 0 ≤ v3 then
          (if inb v1 4 = true then
          (bm (mset σ 6 v1.toNatClampNeg 1) (fun m1 =>
          if inb v1 4 = true then
          (bm (mset m1 7 v1.toNatClampNeg v2) (fun m2 =>
          if inb v1 4 = true then
          (bm (mset m2 8 v1.toNatClampNeg v3) (fun m3 =>
          fX10_sheet_57 300 m3 v1 v3 0))
          else none))
          else none))
          else none)
        else
          (some ((-1000000014), σ)))
      else
        (some ((-1000000001), σ))))
set_option maxHeartbeats 4000000 in
set_option maxRecDepth 20000 in
theorem gX10_sheet (E : XE) {r : Int32 × Mem} (σ : Mem) (v1 : Int32) (v2 : Int32) (v3 : Int32)  (h : fX10_sheet σ v1 v2 v3 = some r) : G E LM qX10_sheet σ 0 [(0, .ref (xa E 0)), (1, .int v1), (2, .int v2), (3, .int v3)] [] (some r.1, r.2) := by
  unfold fX10_sheet at h
  refine r_iload_n (pc := 0) 1 dX10_sheet_0 rfl rfl ?_
  refine r_callS (pc := 1) (As := [.int v1]) (rest := []) lkRX10_135 (ceX10_isSheet _ _ σ v1 rfl) ⟨Nat.le_of_ble_eq_true rfl, Nat.le_of_ble_eq_true rfl⟩ rfl rfl (Nat.le_of_ble_eq_true rfl) dX10_sheet_1 rfl ?_
  refine r_if_eq (pc := 4) 23 dX10_sheet_4 (by decide) h (fun c1 h => ?_) (fun c1 h => ?_)
  · refine r_ldc (pc := 23) w_894 dX10_sheet_23 ?_
    exact r_iretW (pc := 25) rfl dX10_sheet_25 h
  · refine r_iload_n (pc := 7) 2 dX10_sheet_7 rfl rfl ?_
    refine r_iconst (pc := 8) dX10_sheet_8 ci_0 ?_
    refine r_iconst (pc := 9) dX10_sheet_9 ci_2 ?_
    refine r_callS (pc := 10) (As := [.int v2, .int 0, .int 2]) (rest := []) lkRX10_99 (ceX10_isIn _ _ σ v2 0 2 rfl) ⟨Nat.le_of_ble_eq_true rfl, Nat.le_of_ble_eq_true rfl⟩ rfl rfl (Nat.le_of_ble_eq_true rfl) dX10_sheet_10 rfl ?_
    refine r_if_eq (pc := 13) 23 dX10_sheet_13 (by decide) h (fun c2 h => ?_) (fun c2 h => ?_)
    · refine r_ldc (pc := 23) w_894 dX10_sheet_23 ?_
      exact r_iretW (pc := 25) rfl dX10_sheet_25 h
    · refine r_iload_n (pc := 16) 3 dX10_sheet_16 rfl rfl ?_
      refine r_sipush (pc := 17) dX10_sheet_17 cs_200 ?_
      refine r_icmp_le (pc := 20) 26 dX10_sheet_20 (by decide) h (fun c3 h => ?_) (fun c3 h => ?_)
      · refine r_iload_n (pc := 26) 3 dX10_sheet_26 rfl rfl ?_
        refine r_if_ge (pc := 27) 33 dX10_sheet_27 (by decide) h (fun c4 h => ?_) (fun c4 h => ?_)
        · refine r_aload_n (pc := 33) 0 dX10_sheet_33 rfl rfl ?_
          refine r_getR (pc := 34) (i := 0) (j := 6) fdRX10_25 nLM_0 kLM_0 (by decide) rfl dX10_sheet_34 ?_
          refine r_iload_n (pc := 37) 1 dX10_sheet_37 rfl rfl ?_
          refine r_iconst (pc := 38) dX10_sheet_38 ci_1 ?_
          refine inb_k h (fun b1 h => ?_)
          refine r_zast (pc := 39) (i := 6) (v1.toNatClampNeg) (1) rfl rfl nLM_6 kLM_6 lLM_6 b1 dX10_sheet_39 ?_
          refine g_bm h (fun m1 em1 h => ?_)
          refine r_aload_n (pc := 40) 0 dX10_sheet_40 rfl rfl ?_
          refine r_getR (pc := 41) (i := 0) (j := 7) fdRX10_29 nLM_0 kLM_0 (by decide) rfl dX10_sheet_41 ?_
          refine r_iload_n (pc := 44) 1 dX10_sheet_44 rfl rfl ?_
          refine r_iload_n (pc := 45) 2 dX10_sheet_45 rfl rfl ?_
          refine inb_k h (fun b2 h => ?_)
          refine r_iast (pc := 46) (i := 7) (v1.toNatClampNeg) (v2) rfl rfl nLM_7 kLM_7 lLM_7 b2 dX10_sheet_46 ?_
          refine g_bm h (fun m2 em2 h => ?_)
          refine r_aload_n (pc := 47) 0 dX10_sheet_47 rfl rfl ?_
          refine r_getR (pc := 48) (i := 0) (j := 8) fdRX10_32 nLM_0 kLM_0 (by decide) rfl dX10_sheet_48 ?_
          refine r_iload_n (pc := 51) 1 dX10_sheet_51 rfl rfl ?_
          refine r_iload_n (pc := 52) 3 dX10_sheet_52 rfl rfl ?_
          refine inb_k h (fun b3 h => ?_)
          refine r_iast (pc := 53) (i := 8) (v1.toNatClampNeg) (v3) rfl rfl nLM_8 kLM_8 lLM_8 b3 dX10_sheet_53 ?_
          refine g_bm h (fun m3 em3 h => ?_)
          refine r_iconst (pc := 54) dX10_sheet_54 ci_0 ?_
          refine r_istore (pc := 55) (lv' := [(4, .int 0), (0, .ref (xa E 0)), (1, .int v1), (2, .int v2), (3, .int v3)]) dX10_sheet_55 (Nat.le_of_ble_eq_true rfl) rfl ?_
          refine r_sub [1, 2, 4, 0] rfl ?_
          exact gX10_sheet_57 E 300 m3 v1 v3 0 h
        · refine r_ldc (pc := 30) w_945 dX10_sheet_30 ?_
          exact r_iretW (pc := 32) rfl dX10_sheet_32 h
      · refine r_ldc (pc := 23) w_894 dX10_sheet_23 ?_
        exact r_iretW (pc := 25) rfl dX10_sheet_25 h
theorem ceX10_sheet (l : Launch) (d : SD) (σ : Mem) (v1 : Int32) (v2 : Int32) (v3 : Int32)  {r : Int32 × Mem} (h : fX10_sheet σ v1 v2 v3 = some r) : Me l d LM yX10_sheet qX10_sheet σ [.ref (d.2.2.1 0), .int v1, .int v2, .int v3] (some r.1, r.2) := me_of (avs := fun d => [.ref (d.2.2.1 0), .int v1, .int v2, .int v3]) (by decide) rfl (Nat.le_of_ble_eq_true rfl) (fun E => gX10_sheet E σ v1 v2 v3  h)
def fX10_enter_60  (σ : Mem) (v1 : Int32) (v2 : Int32) (v3 : Int32) (t0 : Int32) (t1 : Int32) (t2 : Int32) : Option (Int32 × Mem) :=
  if fX10_isIn σ t0 t1 t2 = 0 then
    (some ((-1000000001), σ))
  else
    (if inb ((200 * v1) + v2) 800 = true then
    (bi (σ 9 (((200 * v1) + v2).toNatClampNeg)) (fun x1 =>
    if inb ((200 * v1) + v2) 800 = true then
    (bm (mset σ 9 (((200 * v1) + v2).toNatClampNeg) v3) (fun m1 =>
    some (x1, m1)))
    else none))
    else none)
set_option maxHeartbeats 4000000 in
set_option maxRecDepth 20000 in
theorem gX10_enter_60 (E : XE)  {r : Int32 × Mem}  (σ : Mem) (v1 : Int32) (v2 : Int32) (v3 : Int32) (t0 : Int32) (t1 : Int32) (t2 : Int32)  (h : fX10_enter_60 σ v1 v2 v3 t0 t1 t2 = some r) : G E LM qX10_enter σ 60 [(0, .ref (xa E 0)), (1, .int v1), (2, .int v2), (3, .int v3)] [.int t2, .int t1, .int t0] (some r.1, r.2) := by
  unfold fX10_enter_60 at h
  refine r_callS (pc := 60) (As := [.int t0, .int t1, .int t2]) (rest := []) lkRX10_99 (ceX10_isIn _ _ σ t0 t1 t2 rfl) ⟨Nat.le_of_ble_eq_true rfl, Nat.le_of_ble_eq_true rfl⟩ rfl rfl (Nat.le_of_ble_eq_true rfl) dX10_enter_60 rfl ?_
  refine r_if_ne (pc := 63) 69 dX10_enter_63 (by decide) h (fun c1 h => ?_) (fun c1 h => ?_)
  · refine r_ldc (pc := 66) w_894 dX10_enter_66 ?_
    exact r_iretW (pc := 68) rfl dX10_enter_68 h
  · refine r_aload_n (pc := 69) 0 dX10_enter_69 rfl rfl ?_
    refine r_getR (pc := 70) (i := 0) (j := 9) fdRX10_35 nLM_0 kLM_0 (by decide) rfl dX10_enter_70 ?_
    refine r_sipush (pc := 73) dX10_enter_73 cs_200 ?_
    refine r_iload_n (pc := 76) 1 dX10_enter_76 rfl rfl ?_
    refine r_imul (pc := 77) dX10_enter_77 ?_
    refine r_iload_n (pc := 78) 2 dX10_enter_78 rfl rfl ?_
    refine r_iadd (pc := 79) dX10_enter_79 ?_
    refine inb_k h (fun b1 h => ?_)
    refine r_iald (pc := 80) (i := 9) (((200 * v1) + v2).toNatClampNeg) rfl nLM_9 kLM_9 lLM_9 b1 dX10_enter_80 ?_
    refine g_bi h (fun x1 ex1 h => ?_)
    refine r_istore (pc := 81) (lv' := [(4, .int x1), (0, .ref (xa E 0)), (1, .int v1), (2, .int v2), (3, .int v3)]) dX10_enter_81 (Nat.le_of_ble_eq_true rfl) rfl ?_
    refine r_aload_n (pc := 83) 1 dX10_enter_83 rfl rfl ?_
    refine r_getR (pc := 84) (i := 0) (j := 9) fdRX10_35 nLM_0 kLM_0 (by decide) rfl dX10_enter_84 ?_
    refine r_sipush (pc := 87) dX10_enter_87 cs_200 ?_
    refine r_iload_n (pc := 90) 2 dX10_enter_90 rfl rfl ?_
    refine r_imul (pc := 91) dX10_enter_91 ?_
    refine r_iload_n (pc := 92) 3 dX10_enter_92 rfl rfl ?_
    refine r_iadd (pc := 93) dX10_enter_93 ?_
    refine r_iload_n (pc := 94) 4 dX10_enter_94 rfl rfl ?_
    refine inb_k h (fun b2 h => ?_)
    refine r_iast (pc := 95) (i := 9) (((200 * v1) + v2).toNatClampNeg) (v3) rfl rfl nLM_9 kLM_9 lLM_9 b2 dX10_enter_95 ?_
    refine g_bm h (fun m1 em1 h => ?_)
    refine r_iload (pc := 96) 0 dX10_enter_96 rfl ?_
    exact r_iretW (pc := 98) rfl dX10_enter_98 h
def fX10_enter (σ : Mem) (v1 : Int32) (v2 : Int32) (v3 : Int32) : Option (Int32 × Mem) :=
  if fX10_isSheet σ v1 = 0 then
    (some ((-1000000001), σ))
  else
    (if inb v1 4 = true then
    (if σ 6 v1.toNatClampNeg = 0 then
      (some ((-1000000011), σ))
    else
      (if inb v1 4 = true then
      (if fX10_isIn σ v2 0 ((σ 8 v1.toNatClampNeg) - 1) = 0 then
        (some ((-1000000013), σ))
      else
        (if inb v1 4 = true then
        (if σ 7 v1.toNatClampNeg = 0 then
          (fX10_enter_60 σ v1 v2 v3 v3 0 100)
        else
          (fX10_enter_60 σ v1 v2 v3 v3 0 1000))
        else none))
      else none))
    else none)
set_option maxHeartbeats 4000000 in
set_option maxRecDepth 20000 in
theorem gX10_enter (E : XE) {r : Int32 × Mem} (σ : Mem) (v1 : Int32) (v2 : Int32) (v3 : Int32)  (h : fX10_enter σ v1 v2 v3 = some r) : G E LM qX10_enter σ 0 [(0, .ref (xa E 0)), (1, .int v1), (2, .int v2), (3, .int v3)] [] (some r.1, r.2) := by
  unfold fX10_enter at h
  refine r_iload_n (pc := 0) 1 dX10_enter_0 rfl rfl ?_
  refine r_callS (pc := 1) (As := [.int v1]) (rest := []) lkRX10_135 (ceX10_isSheet _ _ σ v1 rfl) ⟨Nat.le_of_ble_eq_true rfl, Nat.le_of_ble_eq_true rfl⟩ rfl rfl (Nat.le_of_ble_eq_true rfl) dX10_enter_1 rfl ?_
  refine r_if_ne (pc := 4) 10 dX10_enter_4 (by decide) h (fun c1 h => ?_) (fun c1 h => ?_)
  · refine r_ldc (pc := 7) w_894 dX10_enter_7 ?_
    exact r_iretW (pc := 9) rfl dX10_enter_9 h
  · refine r_aload_n (pc := 10) 0 dX10_enter_10 rfl rfl ?_
    refine r_getR (pc := 11) (i := 0) (j := 6) fdRX10_25 nLM_0 kLM_0 (by decide) rfl dX10_enter_11 ?_
    refine r_iload_n (pc := 14) 1 dX10_enter_14 rfl rfl ?_
    refine inb_k h (fun b1 h => ?_)
    refine r_zald (pc := 15) (i := 6) (v1.toNatClampNeg) rfl nLM_6 kLM_6 lLM_6 b1 dX10_enter_15 ?_
    refine r_if_ne (pc := 16) 22 dX10_enter_16 (by decide) h (fun c2 h => ?_) (fun c2 h => ?_)
    · refine r_ldc (pc := 19) w_950 dX10_enter_19 ?_
      exact r_iretW (pc := 21) rfl dX10_enter_21 h
    · refine r_iload_n (pc := 22) 2 dX10_enter_22 rfl rfl ?_
      refine r_iconst (pc := 23) dX10_enter_23 ci_0 ?_
      refine r_aload_n (pc := 24) 0 dX10_enter_24 rfl rfl ?_
      refine r_getR (pc := 25) (i := 0) (j := 8) fdRX10_32 nLM_0 kLM_0 (by decide) rfl dX10_enter_25 ?_
      refine r_iload_n (pc := 28) 1 dX10_enter_28 rfl rfl ?_
      refine inb_k h (fun b2 h => ?_)
      refine r_iald (pc := 29) (i := 8) (v1.toNatClampNeg) rfl nLM_8 kLM_8 lLM_8 b2 dX10_enter_29 ?_
      refine r_iconst (pc := 30) dX10_enter_30 ci_1 ?_
      refine r_isub (pc := 31) dX10_enter_31 ?_
      refine r_callS (pc := 32) (As := [.int v2, .int 0, .int ((σ 8 v1.toNatClampNeg) - 1)]) (rest := []) lkRX10_99 (ceX10_isIn _ _ σ v2 0 ((σ 8 v1.toNatClampNeg) - 1) rfl) ⟨Nat.le_of_ble_eq_true rfl, Nat.le_of_ble_eq_true rfl⟩ rfl rfl (Nat.le_of_ble_eq_true rfl) dX10_enter_32 rfl ?_
      refine r_if_ne (pc := 35) 41 dX10_enter_35 (by decide) h (fun c3 h => ?_) (fun c3 h => ?_)
      · refine r_ldc (pc := 38) w_951 dX10_enter_38 ?_
        exact r_iretW (pc := 40) rfl dX10_enter_40 h
      · refine r_iload_n (pc := 41) 3 dX10_enter_41 rfl rfl ?_
        refine r_iconst (pc := 42) dX10_enter_42 ci_0 ?_
        refine r_aload_n (pc := 43) 0 dX10_enter_43 rfl rfl ?_
        refine r_getR (pc := 44) (i := 0) (j := 7) fdRX10_29 nLM_0 kLM_0 (by decide) rfl dX10_enter_44 ?_
        refine r_iload_n (pc := 47) 1 dX10_enter_47 rfl rfl ?_
        refine inb_k h (fun b3 h => ?_)
        refine r_iald (pc := 48) (i := 7) (v1.toNatClampNeg) rfl nLM_7 kLM_7 lLM_7 b3 dX10_enter_48 ?_
        refine r_if_ne (pc := 49) 57 dX10_enter_49 (by decide) h (fun c4 h => ?_) (fun c4 h => ?_)
        · refine r_bipush (pc := 52) dX10_enter_52 cb_100 ?_
          refine r_goto (pc := 54) 60 dX10_enter_54 (by decide) ?_
          exact gX10_enter_60 E σ v1 v2 v3 v3 0 100 h
        · refine r_sipush (pc := 57) dX10_enter_57 cs_1000 ?_
          exact gX10_enter_60 E σ v1 v2 v3 v3 0 1000 h
theorem ceX10_enter (l : Launch) (d : SD) (σ : Mem) (v1 : Int32) (v2 : Int32) (v3 : Int32)  {r : Int32 × Mem} (h : fX10_enter σ v1 v2 v3 = some r) : Me l d LM yX10_enter qX10_enter σ [.ref (d.2.2.1 0), .int v1, .int v2, .int v3] (some r.1, r.2) := me_of (avs := fun d => [.ref (d.2.2.1 0), .int v1, .int v2, .int v3]) (by decide) rfl (Nat.le_of_ble_eq_true rfl) (fun E => gX10_enter E σ v1 v2 v3  h)
def fX10_copy_149  : Nat → Mem → Int32 → Int32 → Int32 → Int32 → Option (Int32 × Mem)
  | 0, _, _, _, _, _ => none
  | n + 1, σ, v3, v4, v5, v6 =>
    if v5 ≤ v6 then
      (some (v5, σ))
    else
      (if inb v6 200 = true then
      (if inb (((200 * v3) + v4) + v6) 800 = true then
      (bm (mset σ 9 ((((200 * v3) + v4) + v6).toNatClampNeg) (σ 26 v6.toNatClampNeg)) (fun m1 =>
      fX10_copy_149 n m1 v3 v4 v5 (v6 + 1)))
      else none)
      else none)
set_option maxHeartbeats 4000000 in
set_option maxRecDepth 20000 in
theorem gX10_copy_149 (E : XE)  {r : Int32 × Mem}  : ∀ (n : Nat) (σ : Mem) (v3 : Int32) (v4 : Int32) (v5 : Int32) (v6 : Int32), fX10_copy_149 n σ v3 v4 v5 v6 = some r → G E LM qX10_copy σ 149 [(0, .ref (xa E 0)), (3, .int v3), (4, .int v4), (5, .int v5), (6, .int v6)] [] (some r.1, r.2) := by
  intro n
  induction n with
  | zero => intro σ v3 v4 v5 v6 h; cases h
  | succ n ih =>
    intro σ v3 v4 v5 v6 h
    unfold fX10_copy_149 at h
    refine r_iload (pc := 149) 4 dX10_copy_149 rfl ?_
    refine r_iload (pc := 151) 3 dX10_copy_151 rfl ?_
    refine r_icmp_ge (pc := 153) 185 dX10_copy_153 (by decide) h (fun c1 h => ?_) (fun c1 h => ?_)
    · refine r_iload (pc := 185) 3 dX10_copy_185 rfl ?_
      exact r_iretW (pc := 187) rfl dX10_copy_187 h
    · refine r_aload_n (pc := 156) 0 dX10_copy_156 rfl rfl ?_
      refine r_getR (pc := 157) (i := 0) (j := 9) fdRX10_35 nLM_0 kLM_0 (by decide) rfl dX10_copy_157 ?_
      refine r_sipush (pc := 160) dX10_copy_160 cs_200 ?_
      refine r_iload_n (pc := 163) 1 dX10_copy_163 rfl rfl ?_
      refine r_imul (pc := 164) dX10_copy_164 ?_
      refine r_iload (pc := 165) 2 dX10_copy_165 rfl ?_
      refine r_iadd (pc := 167) dX10_copy_167 ?_
      refine r_iload (pc := 168) 4 dX10_copy_168 rfl ?_
      refine r_iadd (pc := 170) dX10_copy_170 ?_
      refine r_aload_n (pc := 171) 0 dX10_copy_171 rfl rfl ?_
      refine r_getR (pc := 172) (i := 0) (j := 26) fdRX10_86 nLM_0 kLM_0 (by decide) rfl dX10_copy_172 ?_
      refine r_iload (pc := 175) 4 dX10_copy_175 rfl ?_
      refine inb_k h (fun b1 h => ?_)
      refine r_iald (pc := 177) (i := 26) (v6.toNatClampNeg) rfl nLM_26 kLM_26 lLM_26 b1 dX10_copy_177 ?_
      refine inb_k h (fun b2 h => ?_)
      refine r_iast (pc := 178) (i := 9) ((((200 * v3) + v4) + v6).toNatClampNeg) (σ 26 v6.toNatClampNeg) rfl rfl nLM_9 kLM_9 lLM_9 b2 dX10_copy_178 ?_
      refine g_bm h (fun m1 em1 h => ?_)
      refine r_iinc (pc := 179) (v := v6 + 1) (lv' := [(6, .int (v6 + 1)), (0, .ref (xa E 0)), (3, .int v3), (4, .int v4), (5, .int v5)]) 4 dX10_copy_179 rfl (by rw [ci_1]) (Nat.le_of_ble_eq_true rfl) rfl ?_
      refine r_goto (pc := 182) 149 dX10_copy_182 (by decide) ?_
      refine r_sub [1, 2, 3, 4, 0] rfl ?_
      exact ih m1 v3 v4 v5 (v6 + 1) h
def fX10_copy_111  : Nat → Mem → Int32 → Int32 → Int32 → Int32 → Int32 → Int32 → Option (Int32 × Mem)
  | 0, _, _, _, _, _, _, _ => none
  | n + 1, σ, v1, v2, v3, v4, v5, v6 =>
    if v5 ≤ v6 then
      (fX10_copy_149 300 σ v3 v4 v5 0)
    else
      (if inb (((200 * v1) + v2) + v6) 800 = true then
      (if inb v6 200 = true then
      (bm (mset σ 26 v6.toNatClampNeg (σ 9 ((((200 * v1) + v2) + v6).toNatClampNeg))) (fun m1 =>
      fX10_copy_111 n m1 v1 v2 v3 v4 v5 (v6 + 1)))
      else none)
      else none)
set_option maxHeartbeats 4000000 in
set_option maxRecDepth 20000 in
theorem gX10_copy_111 (E : XE)  {r : Int32 × Mem}  : ∀ (n : Nat) (σ : Mem) (v1 : Int32) (v2 : Int32) (v3 : Int32) (v4 : Int32) (v5 : Int32) (v6 : Int32), fX10_copy_111 n σ v1 v2 v3 v4 v5 v6 = some r → G E LM qX10_copy σ 111 [(0, .ref (xa E 0)), (1, .int v1), (2, .int v2), (3, .int v3), (4, .int v4), (5, .int v5), (6, .int v6)] [] (some r.1, r.2) := by
  intro n
  induction n with
  | zero => intro σ v1 v2 v3 v4 v5 v6 h; cases h
  | succ n ih =>
    intro σ v1 v2 v3 v4 v5 v6 h
    unfold fX10_copy_111 at h
    refine r_iload (pc := 111) 6 dX10_copy_111 rfl ?_
    refine r_iload (pc := 113) 5 dX10_copy_113 rfl ?_
    refine r_icmp_ge (pc := 115) 146 dX10_copy_115 (by decide) h (fun c1 h => ?_) (fun c1 h => ?_)
    · refine r_iconst (pc := 146) dX10_copy_146 ci_0 ?_
      refine r_istore (pc := 147) (lv' := [(6, .int 0), (0, .ref (xa E 0)), (1, .int v1), (2, .int v2), (3, .int v3), (4, .int v4), (5, .int v5)]) dX10_copy_147 (Nat.le_of_ble_eq_true rfl) rfl ?_
      refine r_sub [1, 4, 5, 6, 0] rfl ?_
      exact gX10_copy_149 E 300 σ v3 v4 v5 0 h
    · refine r_aload_n (pc := 118) 0 dX10_copy_118 rfl rfl ?_
      refine r_getR (pc := 119) (i := 0) (j := 26) fdRX10_86 nLM_0 kLM_0 (by decide) rfl dX10_copy_119 ?_
      refine r_iload (pc := 122) 6 dX10_copy_122 rfl ?_
      refine r_aload_n (pc := 124) 0 dX10_copy_124 rfl rfl ?_
      refine r_getR (pc := 125) (i := 0) (j := 9) fdRX10_35 nLM_0 kLM_0 (by decide) rfl dX10_copy_125 ?_
      refine r_sipush (pc := 128) dX10_copy_128 cs_200 ?_
      refine r_iload_n (pc := 131) 1 dX10_copy_131 rfl rfl ?_
      refine r_imul (pc := 132) dX10_copy_132 ?_
      refine r_iload_n (pc := 133) 2 dX10_copy_133 rfl rfl ?_
      refine r_iadd (pc := 134) dX10_copy_134 ?_
      refine r_iload (pc := 135) 6 dX10_copy_135 rfl ?_
      refine r_iadd (pc := 137) dX10_copy_137 ?_
      refine inb_k h (fun b1 h => ?_)
      refine r_iald (pc := 138) (i := 9) ((((200 * v1) + v2) + v6).toNatClampNeg) rfl nLM_9 kLM_9 lLM_9 b1 dX10_copy_138 ?_
      refine inb_k h (fun b2 h => ?_)
      refine r_iast (pc := 139) (i := 26) (v6.toNatClampNeg) (σ 9 ((((200 * v1) + v2) + v6).toNatClampNeg)) rfl rfl nLM_26 kLM_26 lLM_26 b2 dX10_copy_139 ?_
      refine g_bm h (fun m1 em1 h => ?_)
      refine r_iinc (pc := 140) (v := v6 + 1) (lv' := [(6, .int (v6 + 1)), (0, .ref (xa E 0)), (1, .int v1), (2, .int v2), (3, .int v3), (4, .int v4), (5, .int v5)]) 6 dX10_copy_140 rfl (by rw [ci_1]) (Nat.le_of_ble_eq_true rfl) rfl ?_
      refine r_goto (pc := 143) 111 dX10_copy_143 (by decide) ?_
      refine r_sub [1, 2, 3, 4, 5, 6, 0] rfl ?_
      exact ih m1 v1 v2 v3 v4 v5 (v6 + 1) h
def fX10_copy (σ : Mem) (v1 : Int32) (v2 : Int32) (v3 : Int32) (v4 : Int32) (v5 : Int32) : Option (Int32 × Mem) :=
  if fX10_isSheet σ v1 = 0 then
    (some ((-1000000001), σ))
  else
    (if fX10_isSheet σ v3 = 0 then
      (some ((-1000000001), σ))
    else
      (if inb v1 4 = true then
      (if σ 6 v1.toNatClampNeg = 0 then
        (some ((-1000000011), σ))
      else
        (if inb v3 4 = true then
        (if σ 6 v3.toNatClampNeg = 0 then
          (some ((-1000000011), σ))
        else
          (if inb v1 4 = true then
          (if inb v3 4 = true then
          (if σ 7 v1.toNatClampNeg = σ 7 v3.toNatClampNeg then
            (if v2 < 0 then
              (some ((-1000000013), σ))
            else
              (if v4 < 0 then
                (some ((-1000000013), σ))
              else
                (if v5 < 0 then
                  (some ((-1000000013), σ))
                else
                  (if inb v1 4 = true then
                  (if 0 < lg_cmp (v2.toInt64 + v5.toInt64) ((σ 8 v1.toNatClampNeg).toInt64) then
                    (some ((-1000000013), σ))
                  else
                    (if inb v3 4 = true then
                    (if lg_cmp (v4.toInt64 + v5.toInt64) ((σ 8 v3.toNatClampNeg).toInt64) ≤ 0 then
                      (fX10_copy_111 300 σ v1 v2 v3 v4 v5 0)
                    else
                      (some ((-1000000013), σ)))
                    else none))
                  else none))))
          else
            (some ((-1000000002), σ)))
          else none)
          else none))
        else none))
      else none))
set_option maxHeartbeats 4000000 in
set_option maxRecDepth 20000 in
theorem gX10_copy (E : XE) {r : Int32 × Mem} (σ : Mem) (v1 : Int32) (v2 : Int32) (v3 : Int32) (v4 : Int32) (v5 : Int32)  (h : fX10_copy σ v1 v2 v3 v4 v5 = some r) : G E LM qX10_copy σ 0 [(0, .ref (xa E 0)), (1, .int v1), (2, .int v2), (3, .int v3), (4, .int v4), (5, .int v5)] [] (some r.1, r.2) := by
  unfold fX10_copy at h
  refine r_iload_n (pc := 0) 1 dX10_copy_0 rfl rfl ?_
  refine r_callS (pc := 1) (As := [.int v1]) (rest := []) lkRX10_135 (ceX10_isSheet _ _ σ v1 rfl) ⟨Nat.le_of_ble_eq_true rfl, Nat.le_of_ble_eq_true rfl⟩ rfl rfl (Nat.le_of_ble_eq_true rfl) dX10_copy_1 rfl ?_
  refine r_if_eq (pc := 4) 14 dX10_copy_4 (by decide) h (fun c1 h => ?_) (fun c1 h => ?_)
  · refine r_ldc (pc := 14) w_894 dX10_copy_14 ?_
    exact r_iretW (pc := 16) rfl dX10_copy_16 h
  · refine r_iload_n (pc := 7) 3 dX10_copy_7 rfl rfl ?_
    refine r_callS (pc := 8) (As := [.int v3]) (rest := []) lkRX10_135 (ceX10_isSheet _ _ σ v3 rfl) ⟨Nat.le_of_ble_eq_true rfl, Nat.le_of_ble_eq_true rfl⟩ rfl rfl (Nat.le_of_ble_eq_true rfl) dX10_copy_8 rfl ?_
    refine r_if_ne (pc := 11) 17 dX10_copy_11 (by decide) h (fun c2 h => ?_) (fun c2 h => ?_)
    · refine r_ldc (pc := 14) w_894 dX10_copy_14 ?_
      exact r_iretW (pc := 16) rfl dX10_copy_16 h
    · refine r_aload_n (pc := 17) 0 dX10_copy_17 rfl rfl ?_
      refine r_getR (pc := 18) (i := 0) (j := 6) fdRX10_25 nLM_0 kLM_0 (by decide) rfl dX10_copy_18 ?_
      refine r_iload_n (pc := 21) 1 dX10_copy_21 rfl rfl ?_
      refine inb_k h (fun b1 h => ?_)
      refine r_zald (pc := 22) (i := 6) (v1.toNatClampNeg) rfl nLM_6 kLM_6 lLM_6 b1 dX10_copy_22 ?_
      refine r_if_eq (pc := 23) 35 dX10_copy_23 (by decide) h (fun c3 h => ?_) (fun c3 h => ?_)
      · refine r_ldc (pc := 35) w_950 dX10_copy_35 ?_
        exact r_iretW (pc := 37) rfl dX10_copy_37 h
      · refine r_aload_n (pc := 26) 0 dX10_copy_26 rfl rfl ?_
        refine r_getR (pc := 27) (i := 0) (j := 6) fdRX10_25 nLM_0 kLM_0 (by decide) rfl dX10_copy_27 ?_
        refine r_iload_n (pc := 30) 3 dX10_copy_30 rfl rfl ?_
        refine inb_k h (fun b2 h => ?_)
        refine r_zald (pc := 31) (i := 6) (v3.toNatClampNeg) rfl nLM_6 kLM_6 lLM_6 b2 dX10_copy_31 ?_
        refine r_if_ne (pc := 32) 38 dX10_copy_32 (by decide) h (fun c4 h => ?_) (fun c4 h => ?_)
        · refine r_ldc (pc := 35) w_950 dX10_copy_35 ?_
          exact r_iretW (pc := 37) rfl dX10_copy_37 h
        · refine r_aload_n (pc := 38) 0 dX10_copy_38 rfl rfl ?_
          refine r_getR (pc := 39) (i := 0) (j := 7) fdRX10_29 nLM_0 kLM_0 (by decide) rfl dX10_copy_39 ?_
          refine r_iload_n (pc := 42) 1 dX10_copy_42 rfl rfl ?_
          refine inb_k h (fun b3 h => ?_)
          refine r_iald (pc := 43) (i := 7) (v1.toNatClampNeg) rfl nLM_7 kLM_7 lLM_7 b3 dX10_copy_43 ?_
          refine r_aload_n (pc := 44) 0 dX10_copy_44 rfl rfl ?_
          refine r_getR (pc := 45) (i := 0) (j := 7) fdRX10_29 nLM_0 kLM_0 (by decide) rfl dX10_copy_45 ?_
          refine r_iload_n (pc := 48) 3 dX10_copy_48 rfl rfl ?_
          refine inb_k h (fun b4 h => ?_)
          refine r_iald (pc := 49) (i := 7) (v3.toNatClampNeg) rfl nLM_7 kLM_7 lLM_7 b4 dX10_copy_49 ?_
          refine r_icmp_eq (pc := 50) 56 dX10_copy_50 (by decide) h (fun c5 h => ?_) (fun c5 h => ?_)
          · refine r_iload_n (pc := 56) 2 dX10_copy_56 rfl rfl ?_
            refine r_if_lt (pc := 57) 105 dX10_copy_57 (by decide) h (fun c6 h => ?_) (fun c6 h => ?_)
            · refine r_ldc (pc := 105) w_951 dX10_copy_105 ?_
              exact r_iretW (pc := 107) rfl dX10_copy_107 h
            · refine r_iload (pc := 60) 4 dX10_copy_60 rfl ?_
              refine r_if_lt (pc := 62) 105 dX10_copy_62 (by decide) h (fun c7 h => ?_) (fun c7 h => ?_)
              · refine r_ldc (pc := 105) w_951 dX10_copy_105 ?_
                exact r_iretW (pc := 107) rfl dX10_copy_107 h
              · refine r_iload (pc := 65) 5 dX10_copy_65 rfl ?_
                refine r_if_lt (pc := 67) 105 dX10_copy_67 (by decide) h (fun c8 h => ?_) (fun c8 h => ?_)
                · refine r_ldc (pc := 105) w_951 dX10_copy_105 ?_
                  exact r_iretW (pc := 107) rfl dX10_copy_107 h
                · refine r_iload_n (pc := 70) 2 dX10_copy_70 rfl rfl ?_
                  refine r_i2l (pc := 71) dX10_copy_71 ?_
                  refine r_iload (pc := 72) 5 dX10_copy_72 rfl ?_
                  refine r_i2l (pc := 74) dX10_copy_74 ?_
                  refine r_ladd (pc := 75) dX10_copy_75 ?_
                  refine r_aload_n (pc := 76) 0 dX10_copy_76 rfl rfl ?_
                  refine r_getR (pc := 77) (i := 0) (j := 8) fdRX10_32 nLM_0 kLM_0 (by decide) rfl dX10_copy_77 ?_
                  refine r_iload_n (pc := 80) 1 dX10_copy_80 rfl rfl ?_
                  refine inb_k h (fun b5 h => ?_)
                  refine r_iald (pc := 81) (i := 8) (v1.toNatClampNeg) rfl nLM_8 kLM_8 lLM_8 b5 dX10_copy_81 ?_
                  refine r_i2l (pc := 82) dX10_copy_82 ?_
                  refine r_lcmp (pc := 83) dX10_copy_83 ?_
                  refine r_if_gt (pc := 84) 105 dX10_copy_84 (by decide) h (fun c9 h => ?_) (fun c9 h => ?_)
                  · refine r_ldc (pc := 105) w_951 dX10_copy_105 ?_
                    exact r_iretW (pc := 107) rfl dX10_copy_107 h
                  · refine r_iload (pc := 87) 4 dX10_copy_87 rfl ?_
                    refine r_i2l (pc := 89) dX10_copy_89 ?_
                    refine r_iload (pc := 90) 5 dX10_copy_90 rfl ?_
                    refine r_i2l (pc := 92) dX10_copy_92 ?_
                    refine r_ladd (pc := 93) dX10_copy_93 ?_
                    refine r_aload_n (pc := 94) 0 dX10_copy_94 rfl rfl ?_
                    refine r_getR (pc := 95) (i := 0) (j := 8) fdRX10_32 nLM_0 kLM_0 (by decide) rfl dX10_copy_95 ?_
                    refine r_iload_n (pc := 98) 3 dX10_copy_98 rfl rfl ?_
                    refine inb_k h (fun b6 h => ?_)
                    refine r_iald (pc := 99) (i := 8) (v3.toNatClampNeg) rfl nLM_8 kLM_8 lLM_8 b6 dX10_copy_99 ?_
                    refine r_i2l (pc := 100) dX10_copy_100 ?_
                    refine r_lcmp (pc := 101) dX10_copy_101 ?_
                    refine r_if_le (pc := 102) 108 dX10_copy_102 (by decide) h (fun c10 h => ?_) (fun c10 h => ?_)
                    · refine r_iconst (pc := 108) dX10_copy_108 ci_0 ?_
                      refine r_istore (pc := 109) (lv' := [(6, .int 0), (0, .ref (xa E 0)), (1, .int v1), (2, .int v2), (3, .int v3), (4, .int v4), (5, .int v5)]) dX10_copy_109 (Nat.le_of_ble_eq_true rfl) rfl ?_
                      refine r_sub [1, 2, 3, 4, 5, 6, 0] rfl ?_
                      exact gX10_copy_111 E 300 σ v1 v2 v3 v4 v5 0 h
                    · refine r_ldc (pc := 105) w_951 dX10_copy_105 ?_
                      exact r_iretW (pc := 107) rfl dX10_copy_107 h
          · refine r_ldc (pc := 53) w_904 dX10_copy_53 ?_
            exact r_iretW (pc := 55) rfl dX10_copy_55 h
theorem ceX10_copy (l : Launch) (d : SD) (σ : Mem) (v1 : Int32) (v2 : Int32) (v3 : Int32) (v4 : Int32) (v5 : Int32)  {r : Int32 × Mem} (h : fX10_copy σ v1 v2 v3 v4 v5 = some r) : Me l d LM yX10_copy qX10_copy σ [.ref (d.2.2.1 0), .int v1, .int v2, .int v3, .int v4, .int v5] (some r.1, r.2) := me_of (avs := fun d => [.ref (d.2.2.1 0), .int v1, .int v2, .int v3, .int v4, .int v5]) (by decide) rfl (Nat.le_of_ble_eq_true rfl) (fun E => gX10_copy E σ v1 v2 v3 v4 v5  h)
def fX10_lose_ (σ : Mem) (v1 : Int32) : Option (Int32 × Mem) :=
  if fX10_isSheet σ v1 = 0 then
    (some ((-1000000001), σ))
  else
    (if inb v1 4 = true then
    (if σ 6 v1.toNatClampNeg = 0 then
      (some ((-1000000011), σ))
    else
      (if inb v1 4 = true then
      (bm (mset σ 6 v1.toNatClampNeg 0) (fun m1 =>
      if inb v1 4 = true then
      (some (m1 8 v1.toNatClampNeg, m1))
      else none))
      else none))
    else none)
set_option maxHeartbeats 4000000 in
set_option maxRecDepth 20000 in
theorem gX10_lose_ (E : XE) {r : Int32 × Mem} (σ : Mem) (v1 : Int32)  (h : fX10_lose_ σ v1 = some r) : G E LM qX10_lose_ σ 0 [(0, .ref (xa E 0)), (1, .int v1)] [] (some r.1, r.2) := by
  unfold fX10_lose_ at h
  refine r_iload_n (pc := 0) 1 dX10_lose__0 rfl rfl ?_
  refine r_callS (pc := 1) (As := [.int v1]) (rest := []) lkRX10_135 (ceX10_isSheet _ _ σ v1 rfl) ⟨Nat.le_of_ble_eq_true rfl, Nat.le_of_ble_eq_true rfl⟩ rfl rfl (Nat.le_of_ble_eq_true rfl) dX10_lose__1 rfl ?_
  refine r_if_ne (pc := 4) 10 dX10_lose__4 (by decide) h (fun c1 h => ?_) (fun c1 h => ?_)
  · refine r_ldc (pc := 7) w_894 dX10_lose__7 ?_
    exact r_iretW (pc := 9) rfl dX10_lose__9 h
  · refine r_aload_n (pc := 10) 0 dX10_lose__10 rfl rfl ?_
    refine r_getR (pc := 11) (i := 0) (j := 6) fdRX10_25 nLM_0 kLM_0 (by decide) rfl dX10_lose__11 ?_
    refine r_iload_n (pc := 14) 1 dX10_lose__14 rfl rfl ?_
    refine inb_k h (fun b1 h => ?_)
    refine r_zald (pc := 15) (i := 6) (v1.toNatClampNeg) rfl nLM_6 kLM_6 lLM_6 b1 dX10_lose__15 ?_
    refine r_if_ne (pc := 16) 22 dX10_lose__16 (by decide) h (fun c2 h => ?_) (fun c2 h => ?_)
    · refine r_ldc (pc := 19) w_950 dX10_lose__19 ?_
      exact r_iretW (pc := 21) rfl dX10_lose__21 h
    · refine r_aload_n (pc := 22) 0 dX10_lose__22 rfl rfl ?_
      refine r_getR (pc := 23) (i := 0) (j := 6) fdRX10_25 nLM_0 kLM_0 (by decide) rfl dX10_lose__23 ?_
      refine r_iload_n (pc := 26) 1 dX10_lose__26 rfl rfl ?_
      refine r_iconst (pc := 27) dX10_lose__27 ci_0 ?_
      refine inb_k h (fun b2 h => ?_)
      refine r_zast (pc := 28) (i := 6) (v1.toNatClampNeg) (0) rfl rfl nLM_6 kLM_6 lLM_6 b2 dX10_lose__28 ?_
      refine g_bm h (fun m1 em1 h => ?_)
      refine r_aload_n (pc := 29) 0 dX10_lose__29 rfl rfl ?_
      refine r_getR (pc := 30) (i := 0) (j := 8) fdRX10_32 nLM_0 kLM_0 (by decide) rfl dX10_lose__30 ?_
      refine r_iload_n (pc := 33) 1 dX10_lose__33 rfl rfl ?_
      refine inb_k h (fun b3 h => ?_)
      refine r_iald (pc := 34) (i := 8) (v1.toNatClampNeg) rfl nLM_8 kLM_8 lLM_8 b3 dX10_lose__34 ?_
      exact r_iretW (pc := 35) rfl dX10_lose__35 h
theorem ceX10_lose_ (l : Launch) (d : SD) (σ : Mem) (v1 : Int32)  {r : Int32 × Mem} (h : fX10_lose_ σ v1 = some r) : Me l d LM yX10_lose_ qX10_lose_ σ [.ref (d.2.2.1 0), .int v1] (some r.1, r.2) := me_of (avs := fun d => [.ref (d.2.2.1 0), .int v1]) (by decide) rfl (Nat.le_of_ble_eq_true rfl) (fun E => gX10_lose_ E σ v1  h)
def fX10_four_3  : Nat → Mem → Int32 → Int32 → Option Mem
  | 0, _, _, _ => none
  | n + 1, σ, v1, v2 =>
    if v2 < 0 then
      (some σ)
    else
      (if inb (σ 0 12) 48 = true then
      (bm (mset σ 10 ((σ 0 12).toNatClampNeg) ((v1 >>> (v2 &&& 31)) &&& 255)) (fun m1 =>
      bm (mset m1 0 12 ((m1 0 12) + 1)) (fun m2 =>
      fX10_four_3 n m2 v1 (v2 + (-8)))))
      else none)
set_option maxHeartbeats 4000000 in
set_option maxRecDepth 20000 in
theorem gX10_four_3 (E : XE)  {r : Mem}  : ∀ (n : Nat) (σ : Mem) (v1 : Int32) (v2 : Int32), fX10_four_3 n σ v1 v2 = some r → G E LM qX10_four σ 3 [(0, .ref (xa E 0)), (1, .int v1), (2, .int v2)] [] (none, r) := by
  intro n
  induction n with
  | zero => intro σ v1 v2 h; cases h
  | succ n ih =>
    intro σ v1 v2 h
    unfold fX10_four_3 at h
    refine r_iload_n (pc := 3) 2 dX10_four_3 rfl rfl ?_
    refine r_if_lt (pc := 4) 39 dX10_four_4 (by decide) h (fun c1 h => ?_) (fun c1 h => ?_)
    · exact r_vret (pc := 39) rfl dX10_four_39 (Option.some.inj h)
    · refine r_aload_n (pc := 7) 0 dX10_four_7 rfl rfl ?_
      refine r_getR (pc := 8) (i := 0) (j := 10) fdRX10_38 nLM_0 kLM_0 (by decide) rfl dX10_four_8 ?_
      refine r_aload_n (pc := 11) 0 dX10_four_11 rfl rfl ?_
      refine r_getI (pc := 12) (i := 0) fdRX10_141 nLM_0 kLM_0 (by decide) dX10_four_12 ?_
      refine r_iload_n (pc := 15) 1 dX10_four_15 rfl rfl ?_
      refine r_iload_n (pc := 16) 2 dX10_four_16 rfl rfl ?_
      refine r_ishr (pc := 17) dX10_four_17 ?_
      refine r_sipush (pc := 18) dX10_four_18 cs_255 ?_
      refine r_iand (pc := 21) dX10_four_21 ?_
      refine inb_k h (fun b1 h => ?_)
      refine r_iast (pc := 22) (i := 10) ((σ 0 12).toNatClampNeg) ((v1 >>> (v2 &&& 31)) &&& 255) rfl rfl nLM_10 kLM_10 lLM_10 b1 dX10_four_22 ?_
      refine g_bm h (fun m1 em1 h => ?_)
      refine r_aload_n (pc := 23) 0 dX10_four_23 rfl rfl ?_
      refine r_dup (pc := 24) dX10_four_24 rfl ?_
      refine r_getI (pc := 25) (i := 0) fdRX10_141 nLM_0 kLM_0 (by decide) dX10_four_25 ?_
      refine r_iconst (pc := 28) dX10_four_28 ci_1 ?_
      refine r_iadd (pc := 29) dX10_four_29 ?_
      refine r_putI (pc := 30) (i := 0) fpRX10_141 nLM_0 kLM_0 (by decide) rfl rfl dX10_four_30 ?_
      refine g_bm h (fun m2 em2 h => ?_)
      refine r_iinc (pc := 33) (v := v2 + (-8)) (lv' := [(2, .int (v2 + (-8))), (0, .ref (xa E 0)), (1, .int v1)]) 2 dX10_four_33 rfl (by rw [ci_m8]) (Nat.le_of_ble_eq_true rfl) rfl ?_
      refine r_goto (pc := 36) 3 dX10_four_36 (by decide) ?_
      refine r_sub [1, 2, 0] rfl ?_
      exact ih m2 v1 (v2 + (-8)) h
def fX10_four (σ : Mem) (v1 : Int32) : Option Mem :=
  fX10_four_3 300 σ v1 24
set_option maxHeartbeats 4000000 in
set_option maxRecDepth 20000 in
theorem gX10_four (E : XE) {r : Mem} (σ : Mem) (v1 : Int32)  (h : fX10_four σ v1 = some r) : G E LM qX10_four σ 0 [(0, .ref (xa E 0)), (1, .int v1)] [] (none, r) := by
  unfold fX10_four at h
  refine r_bipush (pc := 0) dX10_four_0 cb_24 ?_
  refine r_istore_n (pc := 2) (lv' := [(2, .int 24), (0, .ref (xa E 0)), (1, .int v1)]) dX10_four_2 rfl (Nat.le_of_ble_eq_true rfl) rfl ?_
  refine r_sub [1, 2, 0] rfl ?_
  exact gX10_four_3 E 300 σ v1 24 h
theorem ceX10_four (l : Launch) (d : SD) (σ : Mem) (v1 : Int32)  {r : Mem} (h : fX10_four σ v1 = some r) : Me l d LM yX10_four qX10_four σ [.ref (d.2.2.1 0), .int v1] (none, r) := me_of (avs := fun d => [.ref (d.2.2.1 0), .int v1]) (by decide) rfl (Nat.le_of_ble_eq_true rfl) (fun E => gX10_four E σ v1  h)
def fX10_feed (σ : Mem) (v1 : Int32) (v2 : Int32) (v3 : Int32) : Option (Int32 × Mem) :=
  if (σ 0 12) + 12 ≤ 48 then
    (bo (fX10_four σ v1) (fun z1 =>
    bo (fX10_four z1 v2) (fun z2 =>
    bo (fX10_four z2 v3) (fun z3 =>
    some (z3 0 12, z3)))))
  else
    (some ((-1000000003), σ))
set_option maxHeartbeats 4000000 in
set_option maxRecDepth 20000 in
theorem gX10_feed (E : XE) {r : Int32 × Mem} (σ : Mem) (v1 : Int32) (v2 : Int32) (v3 : Int32)  (h : fX10_feed σ v1 v2 v3 = some r) : G E LM qX10_feed σ 0 [(0, .ref (xa E 0)), (1, .int v1), (2, .int v2), (3, .int v3)] [] (some r.1, r.2) := by
  unfold fX10_feed at h
  refine r_aload_n (pc := 0) 0 dX10_feed_0 rfl rfl ?_
  refine r_getI (pc := 1) (i := 0) fdRX10_141 nLM_0 kLM_0 (by decide) dX10_feed_1 ?_
  refine r_bipush (pc := 4) dX10_feed_4 cb_12 ?_
  refine r_iadd (pc := 6) dX10_feed_6 ?_
  refine r_bipush (pc := 7) dX10_feed_7 cb_48 ?_
  refine r_icmp_le (pc := 9) 15 dX10_feed_9 (by decide) h (fun c1 h => ?_) (fun c1 h => ?_)
  · refine r_aload_n (pc := 15) 0 dX10_feed_15 rfl rfl ?_
    refine r_iload_n (pc := 16) 1 dX10_feed_16 rfl rfl ?_
    refine bo_k h (fun z1 hz1 h => ?_)
    refine r_callV (pc := 17) (i := 0) (As := [.int v1]) (rest := []) lkRX10_144 (ceX10_four _ _ σ v1 hz1) nLM_0 kLM_0 (by decide) rfl ⟨Nat.le_of_ble_eq_true rfl, Nat.le_of_ble_eq_true rfl⟩ rfl rfl (Nat.le_of_ble_eq_true rfl) dX10_feed_17 rfl ?_
    refine r_aload_n (pc := 20) 0 dX10_feed_20 rfl rfl ?_
    refine r_iload_n (pc := 21) 2 dX10_feed_21 rfl rfl ?_
    refine bo_k h (fun z2 hz2 h => ?_)
    refine r_callV (pc := 22) (i := 0) (As := [.int v2]) (rest := []) lkRX10_144 (ceX10_four _ _ z1 v2 hz2) nLM_0 kLM_0 (by decide) rfl ⟨Nat.le_of_ble_eq_true rfl, Nat.le_of_ble_eq_true rfl⟩ rfl rfl (Nat.le_of_ble_eq_true rfl) dX10_feed_22 rfl ?_
    refine r_aload_n (pc := 25) 0 dX10_feed_25 rfl rfl ?_
    refine r_iload_n (pc := 26) 3 dX10_feed_26 rfl rfl ?_
    refine bo_k h (fun z3 hz3 h => ?_)
    refine r_callV (pc := 27) (i := 0) (As := [.int v3]) (rest := []) lkRX10_144 (ceX10_four _ _ z2 v3 hz3) nLM_0 kLM_0 (by decide) rfl ⟨Nat.le_of_ble_eq_true rfl, Nat.le_of_ble_eq_true rfl⟩ rfl rfl (Nat.le_of_ble_eq_true rfl) dX10_feed_27 rfl ?_
    refine r_aload_n (pc := 30) 0 dX10_feed_30 rfl rfl ?_
    refine r_getI (pc := 31) (i := 0) fdRX10_141 nLM_0 kLM_0 (by decide) dX10_feed_31 ?_
    exact r_iretW (pc := 34) rfl dX10_feed_34 h
  · refine r_ldc (pc := 12) w_895 dX10_feed_12 ?_
    exact r_iretW (pc := 14) rfl dX10_feed_14 h
theorem ceX10_feed (l : Launch) (d : SD) (σ : Mem) (v1 : Int32) (v2 : Int32) (v3 : Int32)  {r : Int32 × Mem} (h : fX10_feed σ v1 v2 v3 = some r) : Me l d LM yX10_feed qX10_feed σ [.ref (d.2.2.1 0), .int v1, .int v2, .int v3] (some r.1, r.2) := me_of (avs := fun d => [.ref (d.2.2.1 0), .int v1, .int v2, .int v3]) (by decide) rfl (Nat.le_of_ble_eq_true rfl) (fun E => gX10_feed E σ v1 v2 v3  h)
def fX10_trim (σ : Mem) (v1 : Int32) : Option (Int32 × Mem) :=
  if fX10_isIn σ v1 0 (σ 0 12) = 0 then
    (some ((-1000000001), σ))
  else
    (bm (mset σ 0 12 v1) (fun m1 =>
    some (v1, m1)))
set_option maxHeartbeats 4000000 in
set_option maxRecDepth 20000 in
theorem gX10_trim (E : XE) {r : Int32 × Mem} (σ : Mem) (v1 : Int32)  (h : fX10_trim σ v1 = some r) : G E LM qX10_trim σ 0 [(0, .ref (xa E 0)), (1, .int v1)] [] (some r.1, r.2) := by
  unfold fX10_trim at h
  refine r_iload_n (pc := 0) 1 dX10_trim_0 rfl rfl ?_
  refine r_iconst (pc := 1) dX10_trim_1 ci_0 ?_
  refine r_aload_n (pc := 2) 0 dX10_trim_2 rfl rfl ?_
  refine r_getI (pc := 3) (i := 0) fdRX10_141 nLM_0 kLM_0 (by decide) dX10_trim_3 ?_
  refine r_callS (pc := 6) (As := [.int v1, .int 0, .int (σ 0 12)]) (rest := []) lkRX10_99 (ceX10_isIn _ _ σ v1 0 (σ 0 12) rfl) ⟨Nat.le_of_ble_eq_true rfl, Nat.le_of_ble_eq_true rfl⟩ rfl rfl (Nat.le_of_ble_eq_true rfl) dX10_trim_6 rfl ?_
  refine r_if_ne (pc := 9) 15 dX10_trim_9 (by decide) h (fun c1 h => ?_) (fun c1 h => ?_)
  · refine r_ldc (pc := 12) w_894 dX10_trim_12 ?_
    exact r_iretW (pc := 14) rfl dX10_trim_14 h
  · refine r_aload_n (pc := 15) 0 dX10_trim_15 rfl rfl ?_
    refine r_iload_n (pc := 16) 1 dX10_trim_16 rfl rfl ?_
    refine r_putI (pc := 17) (i := 0) fpRX10_141 nLM_0 kLM_0 (by decide) rfl rfl dX10_trim_17 ?_
    refine g_bm h (fun m1 em1 h => ?_)
    refine r_iload_n (pc := 20) 1 dX10_trim_20 rfl rfl ?_
    exact r_iretW (pc := 21) rfl dX10_trim_21 h
theorem ceX10_trim (l : Launch) (d : SD) (σ : Mem) (v1 : Int32)  {r : Int32 × Mem} (h : fX10_trim σ v1 = some r) : Me l d LM yX10_trim qX10_trim σ [.ref (d.2.2.1 0), .int v1] (some r.1, r.2) := me_of (avs := fun d => [.ref (d.2.2.1 0), .int v1]) (by decide) rfl (Nat.le_of_ble_eq_true rfl) (fun E => gX10_trim E σ v1  h)
def fX10_next_84  (σ : Mem)  : Option Mem :=
  bm (mset σ 0 34 ((σ 0 32) - (σ 0 33))) (fun m1 =>
  some m1)
set_option maxHeartbeats 4000000 in
set_option maxRecDepth 20000 in
theorem gX10_next_84 (E : XE)  {r : Mem}  (σ : Mem)   (h : fX10_next_84 σ = some r) : G E LM qX10_next σ 84 [(0, .ref (xa E 0))] [] (none, r) := by
  unfold fX10_next_84 at h
  refine r_aload_n (pc := 84) 0 dX10_next_84 rfl rfl ?_
  refine r_aload_n (pc := 85) 0 dX10_next_85 rfl rfl ?_
  refine r_getI (pc := 86) (i := 0) fdRX10_147 nLM_0 kLM_0 (by decide) dX10_next_86 ?_
  refine r_aload_n (pc := 89) 0 dX10_next_89 rfl rfl ?_
  refine r_getI (pc := 90) (i := 0) fdRX10_150 nLM_0 kLM_0 (by decide) dX10_next_90 ?_
  refine r_isub (pc := 93) dX10_next_93 ?_
  refine r_putI (pc := 94) (i := 0) fpRX10_153 nLM_0 kLM_0 (by decide) rfl rfl dX10_next_94 ?_
  refine g_bm h (fun m1 em1 h => ?_)
  exact r_vret (pc := 97) rfl dX10_next_97 (Option.some.inj h)
def fX10_next_46  : Nat → Mem → Option Mem
  | 0, _ => none
  | n + 1, σ =>
    if σ 0 12 ≤ σ 0 32 then
      (fX10_next_84 σ)
    else
      (if inb (σ 0 32) 48 = true then
      (if σ 10 ((σ 0 32).toNatClampNeg) = 32 then
        (fX10_next_84 σ)
      else
        (bm (mset σ 0 32 ((σ 0 32) + 1)) (fun m1 =>
        fX10_next_46 n m1)))
      else none)
set_option maxHeartbeats 4000000 in
set_option maxRecDepth 20000 in
theorem gX10_next_46 (E : XE)  {r : Mem}  : ∀ (n : Nat) (σ : Mem), fX10_next_46 n σ = some r → G E LM qX10_next σ 46 [(0, .ref (xa E 0))] [] (none, r) := by
  intro n
  induction n with
  | zero => intro σ h; cases h
  | succ n ih =>
    intro σ h
    unfold fX10_next_46 at h
    refine r_aload_n (pc := 46) 0 dX10_next_46 rfl rfl ?_
    refine r_getI (pc := 47) (i := 0) fdRX10_147 nLM_0 kLM_0 (by decide) dX10_next_47 ?_
    refine r_aload_n (pc := 50) 0 dX10_next_50 rfl rfl ?_
    refine r_getI (pc := 51) (i := 0) fdRX10_141 nLM_0 kLM_0 (by decide) dX10_next_51 ?_
    refine r_icmp_ge (pc := 54) 84 dX10_next_54 (by decide) h (fun c1 h => ?_) (fun c1 h => ?_)
    · exact gX10_next_84 E σ h
    · refine r_aload_n (pc := 57) 0 dX10_next_57 rfl rfl ?_
      refine r_getR (pc := 58) (i := 0) (j := 10) fdRX10_38 nLM_0 kLM_0 (by decide) rfl dX10_next_58 ?_
      refine r_aload_n (pc := 61) 0 dX10_next_61 rfl rfl ?_
      refine r_getI (pc := 62) (i := 0) fdRX10_147 nLM_0 kLM_0 (by decide) dX10_next_62 ?_
      refine inb_k h (fun b1 h => ?_)
      refine r_iald (pc := 65) (i := 10) ((σ 0 32).toNatClampNeg) rfl nLM_10 kLM_10 lLM_10 b1 dX10_next_65 ?_
      refine r_bipush (pc := 66) dX10_next_66 cb_32 ?_
      refine r_icmp_eq (pc := 68) 84 dX10_next_68 (by decide) h (fun c2 h => ?_) (fun c2 h => ?_)
      · exact gX10_next_84 E σ h
      · refine r_aload_n (pc := 71) 0 dX10_next_71 rfl rfl ?_
        refine r_dup (pc := 72) dX10_next_72 rfl ?_
        refine r_getI (pc := 73) (i := 0) fdRX10_147 nLM_0 kLM_0 (by decide) dX10_next_73 ?_
        refine r_iconst (pc := 76) dX10_next_76 ci_1 ?_
        refine r_iadd (pc := 77) dX10_next_77 ?_
        refine r_putI (pc := 78) (i := 0) fpRX10_147 nLM_0 kLM_0 (by decide) rfl rfl dX10_next_78 ?_
        refine g_bm h (fun m1 em1 h => ?_)
        refine r_goto (pc := 81) 46 dX10_next_81 (by decide) ?_
        exact ih m1 h
def fX10_next_0  : Nat → Mem → Option Mem
  | 0, _ => none
  | n + 1, σ =>
    if σ 0 12 ≤ σ 0 32 then
      (bm (mset σ 0 33 (σ 0 32)) (fun m1 =>
      fX10_next_46 300 m1))
    else
      (if inb (σ 0 32) 48 = true then
      (if σ 10 ((σ 0 32).toNatClampNeg) = 32 then
        (bm (mset σ 0 32 ((σ 0 32) + 1)) (fun m2 =>
        fX10_next_0 n m2))
      else
        (bm (mset σ 0 33 (σ 0 32)) (fun m3 =>
        fX10_next_46 300 m3)))
      else none)
set_option maxHeartbeats 4000000 in
set_option maxRecDepth 20000 in
theorem gX10_next_0 (E : XE)  {r : Mem}  : ∀ (n : Nat) (σ : Mem), fX10_next_0 n σ = some r → G E LM qX10_next σ 0 [(0, .ref (xa E 0))] [] (none, r) := by
  intro n
  induction n with
  | zero => intro σ h; cases h
  | succ n ih =>
    intro σ h
    unfold fX10_next_0 at h
    refine r_aload_n (pc := 0) 0 dX10_next_0 rfl rfl ?_
    refine r_getI (pc := 1) (i := 0) fdRX10_147 nLM_0 kLM_0 (by decide) dX10_next_1 ?_
    refine r_aload_n (pc := 4) 0 dX10_next_4 rfl rfl ?_
    refine r_getI (pc := 5) (i := 0) fdRX10_141 nLM_0 kLM_0 (by decide) dX10_next_5 ?_
    refine r_icmp_ge (pc := 8) 38 dX10_next_8 (by decide) h (fun c1 h => ?_) (fun c1 h => ?_)
    · refine r_aload_n (pc := 38) 0 dX10_next_38 rfl rfl ?_
      refine r_aload_n (pc := 39) 0 dX10_next_39 rfl rfl ?_
      refine r_getI (pc := 40) (i := 0) fdRX10_147 nLM_0 kLM_0 (by decide) dX10_next_40 ?_
      refine r_putI (pc := 43) (i := 0) fpRX10_150 nLM_0 kLM_0 (by decide) rfl rfl dX10_next_43 ?_
      refine g_bm h (fun m1 em1 h => ?_)
      exact gX10_next_46 E 300 m1 h
    · refine r_aload_n (pc := 11) 0 dX10_next_11 rfl rfl ?_
      refine r_getR (pc := 12) (i := 0) (j := 10) fdRX10_38 nLM_0 kLM_0 (by decide) rfl dX10_next_12 ?_
      refine r_aload_n (pc := 15) 0 dX10_next_15 rfl rfl ?_
      refine r_getI (pc := 16) (i := 0) fdRX10_147 nLM_0 kLM_0 (by decide) dX10_next_16 ?_
      refine inb_k h (fun b1 h => ?_)
      refine r_iald (pc := 19) (i := 10) ((σ 0 32).toNatClampNeg) rfl nLM_10 kLM_10 lLM_10 b1 dX10_next_19 ?_
      refine r_bipush (pc := 20) dX10_next_20 cb_32 ?_
      refine r_icmp_ne (pc := 22) 38 dX10_next_22 (by decide) h (fun c2 h => ?_) (fun c2 h => ?_)
      · refine r_aload_n (pc := 25) 0 dX10_next_25 rfl rfl ?_
        refine r_dup (pc := 26) dX10_next_26 rfl ?_
        refine r_getI (pc := 27) (i := 0) fdRX10_147 nLM_0 kLM_0 (by decide) dX10_next_27 ?_
        refine r_iconst (pc := 30) dX10_next_30 ci_1 ?_
        refine r_iadd (pc := 31) dX10_next_31 ?_
        refine r_putI (pc := 32) (i := 0) fpRX10_147 nLM_0 kLM_0 (by decide) rfl rfl dX10_next_32 ?_
        refine g_bm h (fun m2 em2 h => ?_)
        refine r_goto (pc := 35) 0 dX10_next_35 (by decide) ?_
        exact ih m2 h
      · refine r_aload_n (pc := 38) 0 dX10_next_38 rfl rfl ?_
        refine r_aload_n (pc := 39) 0 dX10_next_39 rfl rfl ?_
        refine r_getI (pc := 40) (i := 0) fdRX10_147 nLM_0 kLM_0 (by decide) dX10_next_40 ?_
        refine r_putI (pc := 43) (i := 0) fpRX10_150 nLM_0 kLM_0 (by decide) rfl rfl dX10_next_43 ?_
        refine g_bm h (fun m3 em3 h => ?_)
        exact gX10_next_46 E 300 m3 h
def fX10_next (σ : Mem)  : Option Mem :=
  fX10_next_0 300 σ
set_option maxHeartbeats 4000000 in
set_option maxRecDepth 20000 in
theorem gX10_next (E : XE) {r : Mem} (σ : Mem)   (h : fX10_next σ  = some r) : G E LM qX10_next σ 0 [(0, .ref (xa E 0))] [] (none, r) := by
  unfold fX10_next at h
  exact gX10_next_0 E 300 σ h
theorem ceX10_next (l : Launch) (d : SD) (σ : Mem)   {r : Mem} (h : fX10_next σ  = some r) : Me l d LM yX10_next qX10_next σ [.ref (d.2.2.1 0)] (none, r) := me_of (avs := fun d => [.ref (d.2.2.1 0)]) (by decide) rfl (Nat.le_of_ble_eq_true rfl) (fun E => gX10_next E σ   h)
def fX10_here (σ : Mem)  : Int32 :=
  if σ 0 34 = 0 then
    (σ 0 12)
  else
    (σ 0 33)
set_option maxHeartbeats 4000000 in
set_option maxRecDepth 20000 in
theorem gX10_here (E : XE) {r : Int32} (σ : Mem)   (h : fX10_here σ  = r) : G E LM qX10_here σ 0 [(0, .ref (xa E 0))] [] (some r, σ) := by
  unfold fX10_here at h
  refine r_aload_n (pc := 0) 0 dX10_here_0 rfl rfl ?_
  refine r_getI (pc := 1) (i := 0) fdRX10_153 nLM_0 kLM_0 (by decide) dX10_here_1 ?_
  refine r_if_ne (pc := 4) 14 dX10_here_4 (by decide) h (fun c1 h => ?_) (fun c1 h => ?_)
  · refine r_aload_n (pc := 7) 0 dX10_here_7 rfl rfl ?_
    refine r_getI (pc := 8) (i := 0) fdRX10_141 nLM_0 kLM_0 (by decide) dX10_here_8 ?_
    refine r_goto (pc := 11) 18 dX10_here_11 (by decide) ?_
    exact r_iret (pc := 18) rfl dX10_here_18 h rfl
  · refine r_aload_n (pc := 14) 0 dX10_here_14 rfl rfl ?_
    refine r_getI (pc := 15) (i := 0) fdRX10_150 nLM_0 kLM_0 (by decide) dX10_here_15 ?_
    exact r_iret (pc := 18) rfl dX10_here_18 h rfl
theorem ceX10_here (l : Launch) (d : SD) (σ : Mem)   {r : Int32} (h : fX10_here σ  = r) : Me l d LM yX10_here qX10_here σ [.ref (d.2.2.1 0)] (some r, σ) := me_of (avs := fun d => [.ref (d.2.2.1 0)]) (by decide) rfl (Nat.le_of_ble_eq_true rfl) (fun E => gX10_here E σ   h)
def fX10_isWord_13  : Nat → Mem → Int64 → Int32 → Int32 → Option Int32
  | 0, _, _, _, _ => none
  | n + 1, σ, v1, v3, v4 =>
    if v3 ≤ v4 then
      (some (1))
    else
      (if inb ((σ 0 33) + v4) 48 = true then
      (if σ 10 (((σ 0 33) + v4).toNatClampNeg) = ((v1 >>> ((8 * ((v3 - 1) - v4)).toInt64 &&& 63)) &&& 255).toInt32 then
        (fX10_isWord_13 n σ v1 v3 (v4 + 1))
      else
        (some (0)))
      else none)
set_option maxHeartbeats 4000000 in
set_option maxRecDepth 20000 in
theorem gX10_isWord_13 (E : XE)  {r : Int32}  (n : Nat) (σ : Mem) : ∀ (v1 : Int64) (v3 : Int32) (v4 : Int32), fX10_isWord_13 n σ v1 v3 v4 = some r → G E LM qX10_isWord σ 13 [(0, .ref (xa E 0)), (1, .long (v1)), (3, .int v3), (4, .int v4)] [] (some r, σ) := by
  induction n with
  | zero => intro v1 v3 v4 h; cases h
  | succ n ih =>
    intro v1 v3 v4 h
    unfold fX10_isWord_13 at h
    refine r_iload (pc := 13) 3 dX10_isWord_13 rfl ?_
    refine r_iload_n (pc := 15) 2 dX10_isWord_15 rfl rfl ?_
    refine r_icmp_ge (pc := 16) 58 dX10_isWord_16 (by decide) h (fun c1 h => ?_) (fun c1 h => ?_)
    · refine r_iconst (pc := 58) dX10_isWord_58 ci_1 ?_
      exact r_zret (pc := 59) rfl rfl dX10_isWord_59 (Option.some.inj h) rfl
    · refine r_aload_n (pc := 19) 0 dX10_isWord_19 rfl rfl ?_
      refine r_getR (pc := 20) (i := 0) (j := 10) fdRX10_38 nLM_0 kLM_0 (by decide) rfl dX10_isWord_20 ?_
      refine r_aload_n (pc := 23) 0 dX10_isWord_23 rfl rfl ?_
      refine r_getI (pc := 24) (i := 0) fdRX10_150 nLM_0 kLM_0 (by decide) dX10_isWord_24 ?_
      refine r_iload (pc := 27) 3 dX10_isWord_27 rfl ?_
      refine r_iadd (pc := 29) dX10_isWord_29 ?_
      refine inb_k h (fun b1 h => ?_)
      refine r_iald (pc := 30) (i := 10) (((σ 0 33) + v4).toNatClampNeg) rfl nLM_10 kLM_10 lLM_10 b1 dX10_isWord_30 ?_
      refine r_lload_n (pc := 31) 1 dX10_isWord_31 rfl rfl ?_
      refine r_bipush (pc := 32) dX10_isWord_32 cb_8 ?_
      refine r_iload_n (pc := 34) 2 dX10_isWord_34 rfl rfl ?_
      refine r_iconst (pc := 35) dX10_isWord_35 ci_1 ?_
      refine r_isub (pc := 36) dX10_isWord_36 ?_
      refine r_iload (pc := 37) 3 dX10_isWord_37 rfl ?_
      refine r_isub (pc := 39) dX10_isWord_39 ?_
      refine r_imul (pc := 40) dX10_isWord_40 ?_
      refine r_lshr (pc := 41) dX10_isWord_41 ?_
      refine r_ldc2 (pc := 42) w_998 dX10_isWord_42 ?_
      refine r_land (pc := 45) dX10_isWord_45 ?_
      refine r_l2i (pc := 46) dX10_isWord_46 ?_
      refine r_icmp_eq (pc := 47) 52 dX10_isWord_47 (by decide) h (fun c2 h => ?_) (fun c2 h => ?_)
      · refine r_iinc (pc := 52) (v := v4 + 1) (lv' := [(4, .int (v4 + 1)), (0, .ref (xa E 0)), (1, .long (v1)), (3, .int v3)]) 3 dX10_isWord_52 rfl (by rw [ci_1]) (Nat.le_of_ble_eq_true rfl) rfl ?_
        refine r_goto (pc := 55) 13 dX10_isWord_55 (by decide) ?_
        refine r_sub [1, 2, 3, 0] rfl ?_
        exact ih v1 v3 (v4 + 1) h
      · refine r_iconst (pc := 50) dX10_isWord_50 ci_0 ?_
        exact r_zret (pc := 51) rfl rfl dX10_isWord_51 (Option.some.inj h) rfl
def fX10_isWord (σ : Mem) (v1 : Int64) (v3 : Int32) : Option Int32 :=
  if σ 0 34 = v3 then
    (fX10_isWord_13 300 σ v1 v3 0)
  else
    (some (0))
set_option maxHeartbeats 4000000 in
set_option maxRecDepth 20000 in
theorem gX10_isWord (E : XE) {r : Int32} (σ : Mem) (v1 : Int64) (v3 : Int32)  (h : fX10_isWord σ v1 v3 = some r) : G E LM qX10_isWord σ 0 [(0, .ref (xa E 0)), (1, .long (v1)), (3, .int v3)] [] (some r, σ) := by
  unfold fX10_isWord at h
  refine r_aload_n (pc := 0) 0 dX10_isWord_0 rfl rfl ?_
  refine r_getI (pc := 1) (i := 0) fdRX10_153 nLM_0 kLM_0 (by decide) dX10_isWord_1 ?_
  refine r_iload_n (pc := 4) 2 dX10_isWord_4 rfl rfl ?_
  refine r_icmp_eq (pc := 5) 10 dX10_isWord_5 (by decide) h (fun c1 h => ?_) (fun c1 h => ?_)
  · refine r_iconst (pc := 10) dX10_isWord_10 ci_0 ?_
    refine r_istore (pc := 11) (lv' := [(4, .int 0), (0, .ref (xa E 0)), (1, .long (v1)), (3, .int v3)]) dX10_isWord_11 (Nat.le_of_ble_eq_true rfl) rfl ?_
    refine r_sub [1, 2, 3, 0] rfl ?_
    exact gX10_isWord_13 E 300 σ v1 v3 0 h
  · refine r_iconst (pc := 8) dX10_isWord_8 ci_0 ?_
    exact r_zret (pc := 9) rfl rfl dX10_isWord_9 (Option.some.inj h) rfl
theorem ceX10_isWord (l : Launch) (d : SD) (σ : Mem) (v1 : Int64) (v3 : Int32)  {r : Int32} (h : fX10_isWord σ v1 v3 = some r) : Me l d LM yX10_isWord qX10_isWord σ [.ref (d.2.2.1 0), .long (v1), .int v3] (some r, σ) := me_of (avs := fun d => [.ref (d.2.2.1 0), .long (v1), .int v3]) (by decide) rfl (Nat.le_of_ble_eq_true rfl) (fun E => gX10_isWord E σ v1 v3  h)
def fX10_number_72  (σ : Mem) (v1 : Int32) : Option Int32 :=
  if σ 0 34 = 0 then
    (some ((-1)))
  else
    (some (v1))
set_option maxHeartbeats 4000000 in
set_option maxRecDepth 20000 in
theorem gX10_number_72 (E : XE)  {r : Int32}  (σ : Mem) (v1 : Int32)  (h : fX10_number_72 σ v1 = some r) : G E LM qX10_number σ 72 [(0, .ref (xa E 0)), (1, .int v1)] [] (some r, σ) := by
  unfold fX10_number_72 at h
  refine r_aload_n (pc := 72) 0 dX10_number_72 rfl rfl ?_
  refine r_getI (pc := 73) (i := 0) fdRX10_153 nLM_0 kLM_0 (by decide) dX10_number_73 ?_
  refine r_if_ne (pc := 76) 83 dX10_number_76 (by decide) h (fun c1 h => ?_) (fun c1 h => ?_)
  · refine r_iconst (pc := 79) dX10_number_79 ci_m1 ?_
    refine r_goto (pc := 80) 84 dX10_number_80 (by decide) ?_
    exact r_iret (pc := 84) rfl dX10_number_84 (Option.some.inj h) rfl
  · refine r_iload_n (pc := 83) 1 dX10_number_83 rfl rfl ?_
    exact r_iret (pc := 84) rfl dX10_number_84 (Option.some.inj h) rfl
def fX10_number_7  : Nat → Mem → Int32 → Int32 → Option Int32
  | 0, _, _, _ => none
  | n + 1, σ, v1, v2 =>
    if (σ 0 33) + (σ 0 34) ≤ v2 then
      (fX10_number_72 σ v1)
    else
      (if inb v2 48 = true then
      (if fX10_isIn σ (σ 10 v2.toNatClampNeg) 48 57 = 0 then
        (some ((-1)))
      else
        (if inb v2 48 = true then
        (bi (((10 * v1) + (σ 10 v2.toNatClampNeg)) - 48) (fun x1 =>
        if x1 ≤ 100000 then
          (fX10_number_7 n σ x1 (v2 + 1))
        else
          (fX10_number_7 n σ 100000 (v2 + 1))))
        else none))
      else none)
set_option maxHeartbeats 4000000 in
set_option maxRecDepth 20000 in
theorem gX10_number_7 (E : XE)  {r : Int32}  (n : Nat) (σ : Mem) : ∀ (v1 : Int32) (v2 : Int32), fX10_number_7 n σ v1 v2 = some r → G E LM qX10_number σ 7 [(0, .ref (xa E 0)), (1, .int v1), (2, .int v2)] [] (some r, σ) := by
  induction n with
  | zero => intro v1 v2 h; cases h
  | succ n ih =>
    intro v1 v2 h
    unfold fX10_number_7 at h
    refine r_iload_n (pc := 7) 2 dX10_number_7 rfl rfl ?_
    refine r_aload_n (pc := 8) 0 dX10_number_8 rfl rfl ?_
    refine r_getI (pc := 9) (i := 0) fdRX10_150 nLM_0 kLM_0 (by decide) dX10_number_9 ?_
    refine r_aload_n (pc := 12) 0 dX10_number_12 rfl rfl ?_
    refine r_getI (pc := 13) (i := 0) fdRX10_153 nLM_0 kLM_0 (by decide) dX10_number_13 ?_
    refine r_iadd (pc := 16) dX10_number_16 ?_
    refine r_icmp_ge (pc := 17) 72 dX10_number_17 (by decide) h (fun c1 h => ?_) (fun c1 h => ?_)
    · refine r_sub [0, 1] rfl ?_
      exact gX10_number_72 E σ v1 h
    · refine r_aload_n (pc := 20) 0 dX10_number_20 rfl rfl ?_
      refine r_getR (pc := 21) (i := 0) (j := 10) fdRX10_38 nLM_0 kLM_0 (by decide) rfl dX10_number_21 ?_
      refine r_iload_n (pc := 24) 2 dX10_number_24 rfl rfl ?_
      refine inb_k h (fun b1 h => ?_)
      refine r_iald (pc := 25) (i := 10) (v2.toNatClampNeg) rfl nLM_10 kLM_10 lLM_10 b1 dX10_number_25 ?_
      refine r_bipush (pc := 26) dX10_number_26 cb_48 ?_
      refine r_bipush (pc := 28) dX10_number_28 cb_57 ?_
      refine r_callS (pc := 30) (As := [.int (σ 10 v2.toNatClampNeg), .int 48, .int 57]) (rest := []) lkRX10_99 (ceX10_isIn _ _ σ (σ 10 v2.toNatClampNeg) 48 57 rfl) ⟨Nat.le_of_ble_eq_true rfl, Nat.le_of_ble_eq_true rfl⟩ rfl rfl (Nat.le_of_ble_eq_true rfl) dX10_number_30 rfl ?_
      refine r_if_ne (pc := 33) 38 dX10_number_33 (by decide) h (fun c2 h => ?_) (fun c2 h => ?_)
      · refine r_iconst (pc := 36) dX10_number_36 ci_m1 ?_
        exact r_iret (pc := 37) rfl dX10_number_37 (Option.some.inj h) rfl
      · refine r_bipush (pc := 38) dX10_number_38 cb_10 ?_
        refine r_iload_n (pc := 40) 1 dX10_number_40 rfl rfl ?_
        refine r_imul (pc := 41) dX10_number_41 ?_
        refine r_aload_n (pc := 42) 0 dX10_number_42 rfl rfl ?_
        refine r_getR (pc := 43) (i := 0) (j := 10) fdRX10_38 nLM_0 kLM_0 (by decide) rfl dX10_number_43 ?_
        refine r_iload_n (pc := 46) 2 dX10_number_46 rfl rfl ?_
        refine inb_k h (fun b2 h => ?_)
        refine r_iald (pc := 47) (i := 10) (v2.toNatClampNeg) rfl nLM_10 kLM_10 lLM_10 b2 dX10_number_47 ?_
        refine r_iadd (pc := 48) dX10_number_48 ?_
        refine r_bipush (pc := 49) dX10_number_49 cb_48 ?_
        refine r_isub (pc := 51) dX10_number_51 ?_
        refine g_bi h (fun x1 ex1 h => ?_)
        refine r_istore_n (pc := 52) (lv' := [(1, .int x1), (0, .ref (xa E 0)), (2, .int v2)]) dX10_number_52 rfl (Nat.le_of_ble_eq_true rfl) rfl ?_
        refine r_iload_n (pc := 53) 0 dX10_number_53 rfl rfl ?_
        refine r_ldc (pc := 54) w_988 dX10_number_54 ?_
        refine r_icmp_le (pc := 56) 64 dX10_number_56 (by decide) h (fun c3 h => ?_) (fun c3 h => ?_)
        · refine r_iload_n (pc := 64) 0 dX10_number_64 rfl rfl ?_
          refine r_istore_n (pc := 65) (lv' := [(1, .int x1), (0, .ref (xa E 0)), (2, .int v2)]) dX10_number_65 rfl (Nat.le_of_ble_eq_true rfl) rfl ?_
          refine r_iinc (pc := 66) (v := v2 + 1) (lv' := [(2, .int (v2 + 1)), (1, .int x1), (0, .ref (xa E 0))]) 2 dX10_number_66 rfl (by rw [ci_1]) (Nat.le_of_ble_eq_true rfl) rfl ?_
          refine r_goto (pc := 69) 7 dX10_number_69 (by decide) ?_
          refine r_sub [2, 1, 0] rfl ?_
          exact ih x1 (v2 + 1) h
        · refine r_ldc (pc := 59) w_988 dX10_number_59 ?_
          refine r_goto (pc := 61) 65 dX10_number_61 (by decide) ?_
          refine r_istore_n (pc := 65) (lv' := [(1, .int 100000), (0, .ref (xa E 0)), (2, .int v2)]) dX10_number_65 rfl (Nat.le_of_ble_eq_true rfl) rfl ?_
          refine r_iinc (pc := 66) (v := v2 + 1) (lv' := [(2, .int (v2 + 1)), (1, .int 100000), (0, .ref (xa E 0))]) 2 dX10_number_66 rfl (by rw [ci_1]) (Nat.le_of_ble_eq_true rfl) rfl ?_
          refine r_goto (pc := 69) 7 dX10_number_69 (by decide) ?_
          refine r_sub [2, 1, 0] rfl ?_
          exact ih 100000 (v2 + 1) h
def fX10_number (σ : Mem)  : Option Int32 :=
  bi (σ 0 33) (fun x1 =>
  fX10_number_7 300 σ 0 x1)
set_option maxHeartbeats 4000000 in
set_option maxRecDepth 20000 in
theorem gX10_number (E : XE) {r : Int32} (σ : Mem)   (h : fX10_number σ  = some r) : G E LM qX10_number σ 0 [(0, .ref (xa E 0))] [] (some r, σ) := by
  unfold fX10_number at h
  refine r_iconst (pc := 0) dX10_number_0 ci_0 ?_
  refine r_istore_n (pc := 1) (lv' := [(1, .int 0), (0, .ref (xa E 0))]) dX10_number_1 rfl (Nat.le_of_ble_eq_true rfl) rfl ?_
  refine r_aload_n (pc := 2) 1 dX10_number_2 rfl rfl ?_
  refine r_getI (pc := 3) (i := 0) fdRX10_150 nLM_0 kLM_0 (by decide) dX10_number_3 ?_
  refine g_bi h (fun x1 ex1 h => ?_)
  refine r_istore_n (pc := 6) (lv' := [(2, .int x1), (1, .int 0), (0, .ref (xa E 0))]) dX10_number_6 rfl (Nat.le_of_ble_eq_true rfl) rfl ?_
  refine r_sub [2, 1, 0] rfl ?_
  exact gX10_number_7 E 300 σ 0 x1 h
theorem ceX10_number (l : Launch) (d : SD) (σ : Mem)   {r : Int32} (h : fX10_number σ  = some r) : Me l d LM yX10_number qX10_number σ [.ref (d.2.2.1 0)] (some r, σ) := me_of (avs := fun d => [.ref (d.2.2.1 0)]) (by decide) rfl (Nat.le_of_ble_eq_true rfl) (fun E => gX10_number E σ   h)
def fX10_endOf (σ : Mem)  : Option Int32 :=
  bo (fX10_isWord σ 6384748 3) (fun z1 =>
  if z1 = 0 then
    (bo (fX10_isWord σ 512970877811 5) (fun z2 =>
    if z2 = 0 then
      (bo (fX10_isWord σ 1886351218 4) (fun z3 =>
      if z3 = 0 then
        (bo (fX10_isWord σ 109299962504556 6) (fun z4 =>
        if z4 = 0 then
          (bo (fX10_isWord σ 1634886504 4) (fun z5 =>
          if z5 = 0 then
            (some ((-1)))
          else
            (some (4))))
        else
          (some (3))))
      else
        (some (2))))
    else
      (some (1))))
  else
    (some (0)))
set_option maxHeartbeats 4000000 in
set_option maxRecDepth 20000 in
theorem gX10_endOf (E : XE) {r : Int32} (σ : Mem)   (h : fX10_endOf σ  = some r) : G E LM qX10_endOf σ 0 [(0, .ref (xa E 0))] [] (some r, σ) := by
  unfold fX10_endOf at h
  refine r_aload_n (pc := 0) 0 dX10_endOf_0 rfl rfl ?_
  refine r_ldc2 (pc := 1) w_1003 dX10_endOf_1 ?_
  refine r_iconst (pc := 4) dX10_endOf_4 ci_3 ?_
  refine bo_k h (fun z1 hz1 h => ?_)
  refine r_callV (pc := 5) (i := 0) (As := [.long (6384748), .int 3]) (rest := []) lkRX10_161 (ceX10_isWord _ _ σ 6384748 3 hz1) nLM_0 kLM_0 (by decide) rfl ⟨Nat.le_of_ble_eq_true rfl, Nat.le_of_ble_eq_true rfl⟩ rfl rfl (Nat.le_of_ble_eq_true rfl) dX10_endOf_5 rfl ?_
  refine r_if_eq (pc := 8) 13 dX10_endOf_8 (by decide) h (fun c1 h => ?_) (fun c1 h => ?_)
  · refine r_aload_n (pc := 13) 0 dX10_endOf_13 rfl rfl ?_
    refine r_ldc2 (pc := 14) w_1004 dX10_endOf_14 ?_
    refine r_iconst (pc := 17) dX10_endOf_17 ci_5 ?_
    refine bo_k h (fun z2 hz2 h => ?_)
    refine r_callV (pc := 18) (i := 0) (As := [.long (512970877811), .int 5]) (rest := []) lkRX10_161 (ceX10_isWord _ _ σ 512970877811 5 hz2) nLM_0 kLM_0 (by decide) rfl ⟨Nat.le_of_ble_eq_true rfl, Nat.le_of_ble_eq_true rfl⟩ rfl rfl (Nat.le_of_ble_eq_true rfl) dX10_endOf_18 rfl ?_
    refine r_if_eq (pc := 21) 26 dX10_endOf_21 (by decide) h (fun c2 h => ?_) (fun c2 h => ?_)
    · refine r_aload_n (pc := 26) 0 dX10_endOf_26 rfl rfl ?_
      refine r_ldc2 (pc := 27) w_1005 dX10_endOf_27 ?_
      refine r_iconst (pc := 30) dX10_endOf_30 ci_4 ?_
      refine bo_k h (fun z3 hz3 h => ?_)
      refine r_callV (pc := 31) (i := 0) (As := [.long (1886351218), .int 4]) (rest := []) lkRX10_161 (ceX10_isWord _ _ σ 1886351218 4 hz3) nLM_0 kLM_0 (by decide) rfl ⟨Nat.le_of_ble_eq_true rfl, Nat.le_of_ble_eq_true rfl⟩ rfl rfl (Nat.le_of_ble_eq_true rfl) dX10_endOf_31 rfl ?_
      refine r_if_eq (pc := 34) 39 dX10_endOf_34 (by decide) h (fun c3 h => ?_) (fun c3 h => ?_)
      · refine r_aload_n (pc := 39) 0 dX10_endOf_39 rfl rfl ?_
        refine r_ldc2 (pc := 40) w_1006 dX10_endOf_40 ?_
        refine r_bipush (pc := 43) dX10_endOf_43 cb_6 ?_
        refine bo_k h (fun z4 hz4 h => ?_)
        refine r_callV (pc := 45) (i := 0) (As := [.long (109299962504556), .int 6]) (rest := []) lkRX10_161 (ceX10_isWord _ _ σ 109299962504556 6 hz4) nLM_0 kLM_0 (by decide) rfl ⟨Nat.le_of_ble_eq_true rfl, Nat.le_of_ble_eq_true rfl⟩ rfl rfl (Nat.le_of_ble_eq_true rfl) dX10_endOf_45 rfl ?_
        refine r_if_eq (pc := 48) 53 dX10_endOf_48 (by decide) h (fun c4 h => ?_) (fun c4 h => ?_)
        · refine r_aload_n (pc := 53) 0 dX10_endOf_53 rfl rfl ?_
          refine r_ldc2 (pc := 54) w_1007 dX10_endOf_54 ?_
          refine r_iconst (pc := 57) dX10_endOf_57 ci_4 ?_
          refine bo_k h (fun z5 hz5 h => ?_)
          refine r_callV (pc := 58) (i := 0) (As := [.long (1634886504), .int 4]) (rest := []) lkRX10_161 (ceX10_isWord _ _ σ 1634886504 4 hz5) nLM_0 kLM_0 (by decide) rfl ⟨Nat.le_of_ble_eq_true rfl, Nat.le_of_ble_eq_true rfl⟩ rfl rfl (Nat.le_of_ble_eq_true rfl) dX10_endOf_58 rfl ?_
          refine r_if_eq (pc := 61) 68 dX10_endOf_61 (by decide) h (fun c5 h => ?_) (fun c5 h => ?_)
          · refine r_iconst (pc := 68) dX10_endOf_68 ci_m1 ?_
            exact r_iret (pc := 69) rfl dX10_endOf_69 (Option.some.inj h) rfl
          · refine r_iconst (pc := 64) dX10_endOf_64 ci_4 ?_
            refine r_goto (pc := 65) 69 dX10_endOf_65 (by decide) ?_
            exact r_iret (pc := 69) rfl dX10_endOf_69 (Option.some.inj h) rfl
        · refine r_iconst (pc := 51) dX10_endOf_51 ci_3 ?_
          exact r_iret (pc := 52) rfl dX10_endOf_52 (Option.some.inj h) rfl
      · refine r_iconst (pc := 37) dX10_endOf_37 ci_2 ?_
        exact r_iret (pc := 38) rfl dX10_endOf_38 (Option.some.inj h) rfl
    · refine r_iconst (pc := 24) dX10_endOf_24 ci_1 ?_
      exact r_iret (pc := 25) rfl dX10_endOf_25 (Option.some.inj h) rfl
  · refine r_iconst (pc := 11) dX10_endOf_11 ci_0 ?_
    exact r_iret (pc := 12) rfl dX10_endOf_12 (Option.some.inj h) rfl
theorem ceX10_endOf (l : Launch) (d : SD) (σ : Mem)   {r : Int32} (h : fX10_endOf σ  = some r) : Me l d LM yX10_endOf qX10_endOf σ [.ref (d.2.2.1 0)] (some r, σ) := me_of (avs := fun d => [.ref (d.2.2.1 0)]) (by decide) rfl (Nat.le_of_ble_eq_true rfl) (fun E => gX10_endOf E σ   h)
def fX10_readGift_257  (σ : Mem)  : Option (Int32 × Mem) :=
  if σ 0 34 = 0 then
    (some ((-1), σ))
  else
    (some (σ 0 33, σ))
set_option maxHeartbeats 4000000 in
set_option maxRecDepth 20000 in
theorem gX10_readGift_257 (E : XE)  {r : Int32 × Mem}  (σ : Mem)   (h : fX10_readGift_257 σ = some r) : G E LM qX10_readGift σ 257 [(0, .ref (xa E 0))] [] (some r.1, r.2) := by
  unfold fX10_readGift_257 at h
  refine r_aload_n (pc := 257) 0 dX10_readGift_257 rfl rfl ?_
  refine r_getI (pc := 258) (i := 0) fdRX10_153 nLM_0 kLM_0 (by decide) dX10_readGift_258 ?_
  refine r_if_ne (pc := 261) 268 dX10_readGift_261 (by decide) h (fun c1 h => ?_) (fun c1 h => ?_)
  · refine r_iconst (pc := 264) dX10_readGift_264 ci_m1 ?_
    refine r_goto (pc := 265) 272 dX10_readGift_265 (by decide) ?_
    exact r_iretW (pc := 272) rfl dX10_readGift_272 h
  · refine r_aload_n (pc := 268) 0 dX10_readGift_268 rfl rfl ?_
    refine r_getI (pc := 269) (i := 0) fdRX10_150 nLM_0 kLM_0 (by decide) dX10_readGift_269 ?_
    exact r_iretW (pc := 272) rfl dX10_readGift_272 h
def fX10_readGift_236  (σ : Mem)  : Option (Int32 × Mem) :=
  bo (fX10_isWord σ 133476333546617 6) (fun z1 =>
  if z1 = 0 then
    (fX10_readGift_257 σ)
  else
    (bm (mset σ 0 39 1) (fun m1 =>
    bo (fX10_next m1) (fun z2 =>
    fX10_readGift_257 z2))))
set_option maxHeartbeats 4000000 in
set_option maxRecDepth 20000 in
theorem gX10_readGift_236 (E : XE)  {r : Int32 × Mem}  (σ : Mem)   (h : fX10_readGift_236 σ = some r) : G E LM qX10_readGift σ 236 [(0, .ref (xa E 0))] [] (some r.1, r.2) := by
  unfold fX10_readGift_236 at h
  refine r_aload_n (pc := 236) 0 dX10_readGift_236 rfl rfl ?_
  refine r_ldc2 (pc := 237) w_1010 dX10_readGift_237 ?_
  refine r_bipush (pc := 240) dX10_readGift_240 cb_6 ?_
  refine bo_k h (fun z1 hz1 h => ?_)
  refine r_callV (pc := 242) (i := 0) (As := [.long (133476333546617), .int 6]) (rest := []) lkRX10_161 (ceX10_isWord _ _ σ 133476333546617 6 hz1) nLM_0 kLM_0 (by decide) rfl ⟨Nat.le_of_ble_eq_true rfl, Nat.le_of_ble_eq_true rfl⟩ rfl rfl (Nat.le_of_ble_eq_true rfl) dX10_readGift_242 rfl ?_
  refine r_if_eq (pc := 245) 257 dX10_readGift_245 (by decide) h (fun c1 h => ?_) (fun c1 h => ?_)
  · exact gX10_readGift_257 E σ h
  · refine r_aload_n (pc := 248) 0 dX10_readGift_248 rfl rfl ?_
    refine r_iconst (pc := 249) dX10_readGift_249 ci_1 ?_
    refine r_putI (pc := 250) (i := 0) fpRX10_200 nLM_0 kLM_0 (by decide) rfl rfl dX10_readGift_250 ?_
    refine g_bm h (fun m1 em1 h => ?_)
    refine r_aload_n (pc := 253) 0 dX10_readGift_253 rfl rfl ?_
    refine bo_k h (fun z2 hz2 h => ?_)
    refine r_callV (pc := 254) (i := 0) (As := []) (rest := []) lkRX10_173 (ceX10_next _ _ m1 hz2) nLM_0 kLM_0 (by decide) rfl ⟨Nat.le_of_ble_eq_true rfl, Nat.le_of_ble_eq_true rfl⟩ rfl rfl (Nat.le_of_ble_eq_true rfl) dX10_readGift_254 rfl ?_
    exact gX10_readGift_257 E z2 h
def fX10_readGift_187  (σ : Mem)  : Option (Int32 × Mem) :=
  bo (fX10_isWord σ 1953066092 4) (fun z1 =>
  if z1 = 0 then
    (fX10_readGift_236 σ)
  else
    (bo (fX10_next σ) (fun z2 =>
    bo (fX10_number z2) (fun z3 =>
    bm (mset z2 0 38 z3) (fun m1 =>
    if fX10_isIn m1 (m1 0 38) (m1 0 37) 200 = 0 then
      (some (fX10_here m1, m1))
    else
      (bo (fX10_next m1) (fun z4 =>
      fX10_readGift_236 z4)))))))
set_option maxHeartbeats 4000000 in
set_option maxRecDepth 20000 in
theorem gX10_readGift_187 (E : XE)  {r : Int32 × Mem}  (σ : Mem)   (h : fX10_readGift_187 σ = some r) : G E LM qX10_readGift σ 187 [(0, .ref (xa E 0))] [] (some r.1, r.2) := by
  unfold fX10_readGift_187 at h
  refine r_aload_n (pc := 187) 0 dX10_readGift_187 rfl rfl ?_
  refine r_ldc2 (pc := 188) w_1009 dX10_readGift_188 ?_
  refine r_iconst (pc := 191) dX10_readGift_191 ci_4 ?_
  refine bo_k h (fun z1 hz1 h => ?_)
  refine r_callV (pc := 192) (i := 0) (As := [.long (1953066092), .int 4]) (rest := []) lkRX10_161 (ceX10_isWord _ _ σ 1953066092 4 hz1) nLM_0 kLM_0 (by decide) rfl ⟨Nat.le_of_ble_eq_true rfl, Nat.le_of_ble_eq_true rfl⟩ rfl rfl (Nat.le_of_ble_eq_true rfl) dX10_readGift_192 rfl ?_
  refine r_if_eq (pc := 195) 236 dX10_readGift_195 (by decide) h (fun c1 h => ?_) (fun c1 h => ?_)
  · exact gX10_readGift_236 E σ h
  · refine r_aload_n (pc := 198) 0 dX10_readGift_198 rfl rfl ?_
    refine bo_k h (fun z2 hz2 h => ?_)
    refine r_callV (pc := 199) (i := 0) (As := []) (rest := []) lkRX10_173 (ceX10_next _ _ σ hz2) nLM_0 kLM_0 (by decide) rfl ⟨Nat.le_of_ble_eq_true rfl, Nat.le_of_ble_eq_true rfl⟩ rfl rfl (Nat.le_of_ble_eq_true rfl) dX10_readGift_199 rfl ?_
    refine r_aload_n (pc := 202) 0 dX10_readGift_202 rfl rfl ?_
    refine r_aload_n (pc := 203) 0 dX10_readGift_203 rfl rfl ?_
    refine bo_k h (fun z3 hz3 h => ?_)
    refine r_callV (pc := 204) (i := 0) (As := []) (rest := [.ref (xa E 0)]) lkRX10_176 (ceX10_number _ _ z2 hz3) nLM_0 kLM_0 (by decide) rfl ⟨Nat.le_of_ble_eq_true rfl, Nat.le_of_ble_eq_true rfl⟩ rfl rfl (Nat.le_of_ble_eq_true rfl) dX10_readGift_204 rfl ?_
    refine r_putI (pc := 207) (i := 0) fpRX10_197 nLM_0 kLM_0 (by decide) rfl rfl dX10_readGift_207 ?_
    refine g_bm h (fun m1 em1 h => ?_)
    refine r_aload_n (pc := 210) 0 dX10_readGift_210 rfl rfl ?_
    refine r_getI (pc := 211) (i := 0) fdRX10_197 nLM_0 kLM_0 (by decide) dX10_readGift_211 ?_
    refine r_aload_n (pc := 214) 0 dX10_readGift_214 rfl rfl ?_
    refine r_getI (pc := 215) (i := 0) fdRX10_194 nLM_0 kLM_0 (by decide) dX10_readGift_215 ?_
    refine r_sipush (pc := 218) dX10_readGift_218 cs_200 ?_
    refine r_callS (pc := 221) (As := [.int (m1 0 38), .int (m1 0 37), .int 200]) (rest := []) lkRX10_99 (ceX10_isIn _ _ m1 (m1 0 38) (m1 0 37) 200 rfl) ⟨Nat.le_of_ble_eq_true rfl, Nat.le_of_ble_eq_true rfl⟩ rfl rfl (Nat.le_of_ble_eq_true rfl) dX10_readGift_221 rfl ?_
    refine r_if_ne (pc := 224) 232 dX10_readGift_224 (by decide) h (fun c2 h => ?_) (fun c2 h => ?_)
    · refine r_aload_n (pc := 227) 0 dX10_readGift_227 rfl rfl ?_
      refine r_callV (pc := 228) (i := 0) (As := []) (rest := []) lkRX10_183 (ceX10_here _ _ m1 rfl) nLM_0 kLM_0 (by decide) rfl ⟨Nat.le_of_ble_eq_true rfl, Nat.le_of_ble_eq_true rfl⟩ rfl rfl (Nat.le_of_ble_eq_true rfl) dX10_readGift_228 rfl ?_
      exact r_iretW (pc := 231) rfl dX10_readGift_231 h
    · refine r_aload_n (pc := 232) 0 dX10_readGift_232 rfl rfl ?_
      refine bo_k h (fun z4 hz4 h => ?_)
      refine r_callV (pc := 233) (i := 0) (As := []) (rest := []) lkRX10_173 (ceX10_next _ _ m1 hz4) nLM_0 kLM_0 (by decide) rfl ⟨Nat.le_of_ble_eq_true rfl, Nat.le_of_ble_eq_true rfl⟩ rfl rfl (Nat.le_of_ble_eq_true rfl) dX10_readGift_233 rfl ?_
      exact gX10_readGift_236 E z4 h
def fX10_readGift_117  (σ : Mem)  : Option (Int32 × Mem) :=
  bm (mset σ 0 37 (σ 0 0)) (fun m1 =>
  bm (mset m1 0 38 200) (fun m2 =>
  bm (mset m2 0 39 0) (fun m3 =>
  bo (fX10_next m3) (fun z1 =>
  bo (fX10_isWord z1 1718775661 4) (fun z2 =>
  if z2 = 0 then
    (fX10_readGift_187 z1)
  else
    (bo (fX10_next z1) (fun z3 =>
    bo (fX10_number z3) (fun z4 =>
    bm (mset z3 0 37 z4) (fun m4 =>
    if fX10_isIn m4 (m4 0 37) 0 200 = 0 then
      (some (fX10_here m4, m4))
    else
      (bo (fX10_next m4) (fun z5 =>
      fX10_readGift_187 z5)))))))))))
set_option maxHeartbeats 4000000 in
set_option maxRecDepth 20000 in
theorem gX10_readGift_117 (E : XE)  {r : Int32 × Mem}  (σ : Mem)   (h : fX10_readGift_117 σ = some r) : G E LM qX10_readGift σ 117 [(0, .ref (xa E 0))] [] (some r.1, r.2) := by
  unfold fX10_readGift_117 at h
  refine r_aload_n (pc := 117) 0 dX10_readGift_117 rfl rfl ?_
  refine r_aload_n (pc := 118) 0 dX10_readGift_118 rfl rfl ?_
  refine r_getI (pc := 119) (i := 0) fdRX10_103 nLM_0 kLM_0 (by decide) dX10_readGift_119 ?_
  refine r_putI (pc := 122) (i := 0) fpRX10_194 nLM_0 kLM_0 (by decide) rfl rfl dX10_readGift_122 ?_
  refine g_bm h (fun m1 em1 h => ?_)
  refine r_aload_n (pc := 125) 0 dX10_readGift_125 rfl rfl ?_
  refine r_sipush (pc := 126) dX10_readGift_126 cs_200 ?_
  refine r_putI (pc := 129) (i := 0) fpRX10_197 nLM_0 kLM_0 (by decide) rfl rfl dX10_readGift_129 ?_
  refine g_bm h (fun m2 em2 h => ?_)
  refine r_aload_n (pc := 132) 0 dX10_readGift_132 rfl rfl ?_
  refine r_iconst (pc := 133) dX10_readGift_133 ci_0 ?_
  refine r_putI (pc := 134) (i := 0) fpRX10_200 nLM_0 kLM_0 (by decide) rfl rfl dX10_readGift_134 ?_
  refine g_bm h (fun m3 em3 h => ?_)
  refine r_aload_n (pc := 137) 0 dX10_readGift_137 rfl rfl ?_
  refine bo_k h (fun z1 hz1 h => ?_)
  refine r_callV (pc := 138) (i := 0) (As := []) (rest := []) lkRX10_173 (ceX10_next _ _ m3 hz1) nLM_0 kLM_0 (by decide) rfl ⟨Nat.le_of_ble_eq_true rfl, Nat.le_of_ble_eq_true rfl⟩ rfl rfl (Nat.le_of_ble_eq_true rfl) dX10_readGift_138 rfl ?_
  refine r_aload_n (pc := 141) 0 dX10_readGift_141 rfl rfl ?_
  refine r_ldc2 (pc := 142) w_1008 dX10_readGift_142 ?_
  refine r_iconst (pc := 145) dX10_readGift_145 ci_4 ?_
  refine bo_k h (fun z2 hz2 h => ?_)
  refine r_callV (pc := 146) (i := 0) (As := [.long (1718775661), .int 4]) (rest := []) lkRX10_161 (ceX10_isWord _ _ z1 1718775661 4 hz2) nLM_0 kLM_0 (by decide) rfl ⟨Nat.le_of_ble_eq_true rfl, Nat.le_of_ble_eq_true rfl⟩ rfl rfl (Nat.le_of_ble_eq_true rfl) dX10_readGift_146 rfl ?_
  refine r_if_eq (pc := 149) 187 dX10_readGift_149 (by decide) h (fun c1 h => ?_) (fun c1 h => ?_)
  · exact gX10_readGift_187 E z1 h
  · refine r_aload_n (pc := 152) 0 dX10_readGift_152 rfl rfl ?_
    refine bo_k h (fun z3 hz3 h => ?_)
    refine r_callV (pc := 153) (i := 0) (As := []) (rest := []) lkRX10_173 (ceX10_next _ _ z1 hz3) nLM_0 kLM_0 (by decide) rfl ⟨Nat.le_of_ble_eq_true rfl, Nat.le_of_ble_eq_true rfl⟩ rfl rfl (Nat.le_of_ble_eq_true rfl) dX10_readGift_153 rfl ?_
    refine r_aload_n (pc := 156) 0 dX10_readGift_156 rfl rfl ?_
    refine r_aload_n (pc := 157) 0 dX10_readGift_157 rfl rfl ?_
    refine bo_k h (fun z4 hz4 h => ?_)
    refine r_callV (pc := 158) (i := 0) (As := []) (rest := [.ref (xa E 0)]) lkRX10_176 (ceX10_number _ _ z3 hz4) nLM_0 kLM_0 (by decide) rfl ⟨Nat.le_of_ble_eq_true rfl, Nat.le_of_ble_eq_true rfl⟩ rfl rfl (Nat.le_of_ble_eq_true rfl) dX10_readGift_158 rfl ?_
    refine r_putI (pc := 161) (i := 0) fpRX10_194 nLM_0 kLM_0 (by decide) rfl rfl dX10_readGift_161 ?_
    refine g_bm h (fun m4 em4 h => ?_)
    refine r_aload_n (pc := 164) 0 dX10_readGift_164 rfl rfl ?_
    refine r_getI (pc := 165) (i := 0) fdRX10_194 nLM_0 kLM_0 (by decide) dX10_readGift_165 ?_
    refine r_iconst (pc := 168) dX10_readGift_168 ci_0 ?_
    refine r_sipush (pc := 169) dX10_readGift_169 cs_200 ?_
    refine r_callS (pc := 172) (As := [.int (m4 0 37), .int 0, .int 200]) (rest := []) lkRX10_99 (ceX10_isIn _ _ m4 (m4 0 37) 0 200 rfl) ⟨Nat.le_of_ble_eq_true rfl, Nat.le_of_ble_eq_true rfl⟩ rfl rfl (Nat.le_of_ble_eq_true rfl) dX10_readGift_172 rfl ?_
    refine r_if_ne (pc := 175) 183 dX10_readGift_175 (by decide) h (fun c2 h => ?_) (fun c2 h => ?_)
    · refine r_aload_n (pc := 178) 0 dX10_readGift_178 rfl rfl ?_
      refine r_callV (pc := 179) (i := 0) (As := []) (rest := []) lkRX10_183 (ceX10_here _ _ m4 rfl) nLM_0 kLM_0 (by decide) rfl ⟨Nat.le_of_ble_eq_true rfl, Nat.le_of_ble_eq_true rfl⟩ rfl rfl (Nat.le_of_ble_eq_true rfl) dX10_readGift_179 rfl ?_
      exact r_iretW (pc := 182) rfl dX10_readGift_182 h
    · refine r_aload_n (pc := 183) 0 dX10_readGift_183 rfl rfl ?_
      refine bo_k h (fun z5 hz5 h => ?_)
      refine r_callV (pc := 184) (i := 0) (As := []) (rest := []) lkRX10_173 (ceX10_next _ _ m4 hz5) nLM_0 kLM_0 (by decide) rfl ⟨Nat.le_of_ble_eq_true rfl, Nat.le_of_ble_eq_true rfl⟩ rfl rfl (Nat.le_of_ble_eq_true rfl) dX10_readGift_184 rfl ?_
      exact gX10_readGift_187 E z5 h
def fX10_readGift (σ : Mem)  : Option (Int32 × Mem) :=
  bm (mset σ 0 32 0) (fun m1 =>
  bo (fX10_next m1) (fun z1 =>
  bo (fX10_number z1) (fun z2 =>
  bm (mset z1 0 35 z2) (fun m2 =>
  if fX10_isIn m2 (m2 0 35) 1 9999 = 0 then
    (some (fX10_here m2, m2))
  else
    (bo (fX10_next m2) (fun z3 =>
    bo (fX10_isWord z3 6713202 3) (fun z4 =>
    if z4 = 0 then
      (some (fX10_here z3, z3))
    else
      (bo (fX10_next z3) (fun z5 =>
      bo (fX10_endOf z5) (fun z6 =>
      bm (mset z5 0 36 z6) (fun m3 =>
      if 0 ≤ m3 0 36 then
        (if m3 0 36 = 4 then
          (bo (fX10_next m3) (fun z7 =>
          bo (fX10_number z7) (fun z8 =>
          if fX10_isArch z7 z8 = 0 then
            (some (fX10_here z7, z7))
          else
            (bm (mset z7 0 36 (4 + z8)) (fun m4 =>
            fX10_readGift_117 m4)))))
        else
          (fX10_readGift_117 m3))
      else
        (some (fX10_here m3, m3)))))))))))))
set_option maxHeartbeats 4000000 in
set_option maxRecDepth 20000 in
theorem gX10_readGift (E : XE) {r : Int32 × Mem} (σ : Mem)   (h : fX10_readGift σ  = some r) : G E LM qX10_readGift σ 0 [(0, .ref (xa E 0))] [] (some r.1, r.2) := by
  unfold fX10_readGift at h
  refine r_aload_n (pc := 0) 0 dX10_readGift_0 rfl rfl ?_
  refine r_iconst (pc := 1) dX10_readGift_1 ci_0 ?_
  refine r_putI (pc := 2) (i := 0) fpRX10_147 nLM_0 kLM_0 (by decide) rfl rfl dX10_readGift_2 ?_
  refine g_bm h (fun m1 em1 h => ?_)
  refine r_aload_n (pc := 5) 0 dX10_readGift_5 rfl rfl ?_
  refine bo_k h (fun z1 hz1 h => ?_)
  refine r_callV (pc := 6) (i := 0) (As := []) (rest := []) lkRX10_173 (ceX10_next _ _ m1 hz1) nLM_0 kLM_0 (by decide) rfl ⟨Nat.le_of_ble_eq_true rfl, Nat.le_of_ble_eq_true rfl⟩ rfl rfl (Nat.le_of_ble_eq_true rfl) dX10_readGift_6 rfl ?_
  refine r_aload_n (pc := 9) 0 dX10_readGift_9 rfl rfl ?_
  refine r_aload_n (pc := 10) 0 dX10_readGift_10 rfl rfl ?_
  refine bo_k h (fun z2 hz2 h => ?_)
  refine r_callV (pc := 11) (i := 0) (As := []) (rest := [.ref (xa E 0)]) lkRX10_176 (ceX10_number _ _ z1 hz2) nLM_0 kLM_0 (by decide) rfl ⟨Nat.le_of_ble_eq_true rfl, Nat.le_of_ble_eq_true rfl⟩ rfl rfl (Nat.le_of_ble_eq_true rfl) dX10_readGift_11 rfl ?_
  refine r_putI (pc := 14) (i := 0) fpRX10_180 nLM_0 kLM_0 (by decide) rfl rfl dX10_readGift_14 ?_
  refine g_bm h (fun m2 em2 h => ?_)
  refine r_aload_n (pc := 17) 0 dX10_readGift_17 rfl rfl ?_
  refine r_getI (pc := 18) (i := 0) fdRX10_180 nLM_0 kLM_0 (by decide) dX10_readGift_18 ?_
  refine r_iconst (pc := 21) dX10_readGift_21 ci_1 ?_
  refine r_sipush (pc := 22) dX10_readGift_22 cs_9999 ?_
  refine r_callS (pc := 25) (As := [.int (m2 0 35), .int 1, .int 9999]) (rest := []) lkRX10_99 (ceX10_isIn _ _ m2 (m2 0 35) 1 9999 rfl) ⟨Nat.le_of_ble_eq_true rfl, Nat.le_of_ble_eq_true rfl⟩ rfl rfl (Nat.le_of_ble_eq_true rfl) dX10_readGift_25 rfl ?_
  refine r_if_ne (pc := 28) 36 dX10_readGift_28 (by decide) h (fun c1 h => ?_) (fun c1 h => ?_)
  · refine r_aload_n (pc := 31) 0 dX10_readGift_31 rfl rfl ?_
    refine r_callV (pc := 32) (i := 0) (As := []) (rest := []) lkRX10_183 (ceX10_here _ _ m2 rfl) nLM_0 kLM_0 (by decide) rfl ⟨Nat.le_of_ble_eq_true rfl, Nat.le_of_ble_eq_true rfl⟩ rfl rfl (Nat.le_of_ble_eq_true rfl) dX10_readGift_32 rfl ?_
    exact r_iretW (pc := 35) rfl dX10_readGift_35 h
  · refine r_aload_n (pc := 36) 0 dX10_readGift_36 rfl rfl ?_
    refine bo_k h (fun z3 hz3 h => ?_)
    refine r_callV (pc := 37) (i := 0) (As := []) (rest := []) lkRX10_173 (ceX10_next _ _ m2 hz3) nLM_0 kLM_0 (by decide) rfl ⟨Nat.le_of_ble_eq_true rfl, Nat.le_of_ble_eq_true rfl⟩ rfl rfl (Nat.le_of_ble_eq_true rfl) dX10_readGift_37 rfl ?_
    refine r_aload_n (pc := 40) 0 dX10_readGift_40 rfl rfl ?_
    refine r_ldc2 (pc := 41) w_993 dX10_readGift_41 ?_
    refine r_iconst (pc := 44) dX10_readGift_44 ci_3 ?_
    refine bo_k h (fun z4 hz4 h => ?_)
    refine r_callV (pc := 45) (i := 0) (As := [.long (6713202), .int 3]) (rest := []) lkRX10_161 (ceX10_isWord _ _ z3 6713202 3 hz4) nLM_0 kLM_0 (by decide) rfl ⟨Nat.le_of_ble_eq_true rfl, Nat.le_of_ble_eq_true rfl⟩ rfl rfl (Nat.le_of_ble_eq_true rfl) dX10_readGift_45 rfl ?_
    refine r_if_ne (pc := 48) 56 dX10_readGift_48 (by decide) h (fun c2 h => ?_) (fun c2 h => ?_)
    · refine r_aload_n (pc := 51) 0 dX10_readGift_51 rfl rfl ?_
      refine r_callV (pc := 52) (i := 0) (As := []) (rest := []) lkRX10_183 (ceX10_here _ _ z3 rfl) nLM_0 kLM_0 (by decide) rfl ⟨Nat.le_of_ble_eq_true rfl, Nat.le_of_ble_eq_true rfl⟩ rfl rfl (Nat.le_of_ble_eq_true rfl) dX10_readGift_52 rfl ?_
      exact r_iretW (pc := 55) rfl dX10_readGift_55 h
    · refine r_aload_n (pc := 56) 0 dX10_readGift_56 rfl rfl ?_
      refine bo_k h (fun z5 hz5 h => ?_)
      refine r_callV (pc := 57) (i := 0) (As := []) (rest := []) lkRX10_173 (ceX10_next _ _ z3 hz5) nLM_0 kLM_0 (by decide) rfl ⟨Nat.le_of_ble_eq_true rfl, Nat.le_of_ble_eq_true rfl⟩ rfl rfl (Nat.le_of_ble_eq_true rfl) dX10_readGift_57 rfl ?_
      refine r_aload_n (pc := 60) 0 dX10_readGift_60 rfl rfl ?_
      refine r_aload_n (pc := 61) 0 dX10_readGift_61 rfl rfl ?_
      refine bo_k h (fun z6 hz6 h => ?_)
      refine r_callV (pc := 62) (i := 0) (As := []) (rest := [.ref (xa E 0)]) lkRX10_188 (ceX10_endOf _ _ z5 hz6) nLM_0 kLM_0 (by decide) rfl ⟨Nat.le_of_ble_eq_true rfl, Nat.le_of_ble_eq_true rfl⟩ rfl rfl (Nat.le_of_ble_eq_true rfl) dX10_readGift_62 rfl ?_
      refine r_putI (pc := 65) (i := 0) fpRX10_191 nLM_0 kLM_0 (by decide) rfl rfl dX10_readGift_65 ?_
      refine g_bm h (fun m3 em3 h => ?_)
      refine r_aload_n (pc := 68) 0 dX10_readGift_68 rfl rfl ?_
      refine r_getI (pc := 69) (i := 0) fdRX10_191 nLM_0 kLM_0 (by decide) dX10_readGift_69 ?_
      refine r_if_ge (pc := 72) 80 dX10_readGift_72 (by decide) h (fun c3 h => ?_) (fun c3 h => ?_)
      · refine r_aload_n (pc := 80) 0 dX10_readGift_80 rfl rfl ?_
        refine r_getI (pc := 81) (i := 0) fdRX10_191 nLM_0 kLM_0 (by decide) dX10_readGift_81 ?_
        refine r_iconst (pc := 84) dX10_readGift_84 ci_4 ?_
        refine r_icmp_ne (pc := 85) 117 dX10_readGift_85 (by decide) h (fun c4 h => ?_) (fun c4 h => ?_)
        · refine r_aload_n (pc := 88) 0 dX10_readGift_88 rfl rfl ?_
          refine bo_k h (fun z7 hz7 h => ?_)
          refine r_callV (pc := 89) (i := 0) (As := []) (rest := []) lkRX10_173 (ceX10_next _ _ m3 hz7) nLM_0 kLM_0 (by decide) rfl ⟨Nat.le_of_ble_eq_true rfl, Nat.le_of_ble_eq_true rfl⟩ rfl rfl (Nat.le_of_ble_eq_true rfl) dX10_readGift_89 rfl ?_
          refine r_aload_n (pc := 92) 0 dX10_readGift_92 rfl rfl ?_
          refine bo_k h (fun z8 hz8 h => ?_)
          refine r_callV (pc := 93) (i := 0) (As := []) (rest := []) lkRX10_176 (ceX10_number _ _ z7 hz8) nLM_0 kLM_0 (by decide) rfl ⟨Nat.le_of_ble_eq_true rfl, Nat.le_of_ble_eq_true rfl⟩ rfl rfl (Nat.le_of_ble_eq_true rfl) dX10_readGift_93 rfl ?_
          refine r_istore_n (pc := 96) (lv' := [(1, .int z8), (0, .ref (xa E 0))]) dX10_readGift_96 rfl (Nat.le_of_ble_eq_true rfl) rfl ?_
          refine r_aload_n (pc := 97) 1 dX10_readGift_97 rfl rfl ?_
          refine r_iload_n (pc := 98) 0 dX10_readGift_98 rfl rfl ?_
          refine r_callV (pc := 99) (i := 0) (As := [.int z8]) (rest := []) lkRX10_108 (ceX10_isArch _ _ z7 z8 rfl) nLM_0 kLM_0 (by decide) rfl ⟨Nat.le_of_ble_eq_true rfl, Nat.le_of_ble_eq_true rfl⟩ rfl rfl (Nat.le_of_ble_eq_true rfl) dX10_readGift_99 rfl ?_
          refine r_if_ne (pc := 102) 110 dX10_readGift_102 (by decide) h (fun c5 h => ?_) (fun c5 h => ?_)
          · refine r_aload_n (pc := 105) 1 dX10_readGift_105 rfl rfl ?_
            refine r_callV (pc := 106) (i := 0) (As := []) (rest := []) lkRX10_183 (ceX10_here _ _ z7 rfl) nLM_0 kLM_0 (by decide) rfl ⟨Nat.le_of_ble_eq_true rfl, Nat.le_of_ble_eq_true rfl⟩ rfl rfl (Nat.le_of_ble_eq_true rfl) dX10_readGift_106 rfl ?_
            exact r_iretW (pc := 109) rfl dX10_readGift_109 h
          · refine r_aload_n (pc := 110) 1 dX10_readGift_110 rfl rfl ?_
            refine r_iconst (pc := 111) dX10_readGift_111 ci_4 ?_
            refine r_iload_n (pc := 112) 0 dX10_readGift_112 rfl rfl ?_
            refine r_iadd (pc := 113) dX10_readGift_113 ?_
            refine r_putI (pc := 114) (i := 0) fpRX10_191 nLM_0 kLM_0 (by decide) rfl rfl dX10_readGift_114 ?_
            refine g_bm h (fun m4 em4 h => ?_)
            refine r_sub [1] rfl ?_
            exact gX10_readGift_117 E m4 h
        · exact gX10_readGift_117 E m3 h
      · refine r_aload_n (pc := 75) 0 dX10_readGift_75 rfl rfl ?_
        refine r_callV (pc := 76) (i := 0) (As := []) (rest := []) lkRX10_183 (ceX10_here _ _ m3 rfl) nLM_0 kLM_0 (by decide) rfl ⟨Nat.le_of_ble_eq_true rfl, Nat.le_of_ble_eq_true rfl⟩ rfl rfl (Nat.le_of_ble_eq_true rfl) dX10_readGift_76 rfl ?_
        exact r_iretW (pc := 79) rfl dX10_readGift_79 h
theorem ceX10_readGift (l : Launch) (d : SD) (σ : Mem)   {r : Int32 × Mem} (h : fX10_readGift σ  = some r) : Me l d LM yX10_readGift qX10_readGift σ [.ref (d.2.2.1 0)] (some r.1, r.2) := me_of (avs := fun d => [.ref (d.2.2.1 0)]) (by decide) rfl (Nat.le_of_ble_eq_true rfl) (fun E => gX10_readGift E σ   h)
def fX10_comes (σ : Mem) (v1 : Int32) (v2 : Int32) (v3 : Int32) : Option Mem :=
  if inb v1 20 = true then
  (if inb v1 20 = true then
  (bm (mset σ 16 v1.toNatClampNeg ((σ 16 v1.toNatClampNeg) + v2)) (fun m1 =>
  if inb v1 20 = true then
  (if inb v1 20 = true then
  (bm (mset m1 17 v1.toNatClampNeg ((m1 17 v1.toNatClampNeg) + v2)) (fun m2 =>
  bo (fX10_told m2 v3 v2) (fun z1 =>
  some z1)))
  else none)
  else none))
  else none)
  else none
set_option maxHeartbeats 4000000 in
set_option maxRecDepth 20000 in
theorem gX10_comes (E : XE) {r : Mem} (σ : Mem) (v1 : Int32) (v2 : Int32) (v3 : Int32)  (h : fX10_comes σ v1 v2 v3 = some r) : G E LM qX10_comes σ 0 [(0, .ref (xa E 0)), (1, .int v1), (2, .int v2), (3, .int v3)] [] (none, r) := by
  unfold fX10_comes at h
  refine r_aload_n (pc := 0) 0 dX10_comes_0 rfl rfl ?_
  refine r_getR (pc := 1) (i := 0) (j := 16) fdRX10_56 nLM_0 kLM_0 (by decide) rfl dX10_comes_1 ?_
  refine r_iload_n (pc := 4) 1 dX10_comes_4 rfl rfl ?_
  refine r_dup2 (pc := 5) dX10_comes_5 rfl rfl ?_
  refine inb_k h (fun b1 h => ?_)
  refine r_iald (pc := 6) (i := 16) (v1.toNatClampNeg) rfl nLM_16 kLM_16 lLM_16 b1 dX10_comes_6 ?_
  refine r_iload_n (pc := 7) 2 dX10_comes_7 rfl rfl ?_
  refine r_iadd (pc := 8) dX10_comes_8 ?_
  refine inb_k h (fun b2 h => ?_)
  refine r_iast (pc := 9) (i := 16) (v1.toNatClampNeg) ((σ 16 v1.toNatClampNeg) + v2) rfl rfl nLM_16 kLM_16 lLM_16 b2 dX10_comes_9 ?_
  refine g_bm h (fun m1 em1 h => ?_)
  refine r_aload_n (pc := 10) 0 dX10_comes_10 rfl rfl ?_
  refine r_getR (pc := 11) (i := 0) (j := 17) fdRX10_59 nLM_0 kLM_0 (by decide) rfl dX10_comes_11 ?_
  refine r_iload_n (pc := 14) 1 dX10_comes_14 rfl rfl ?_
  refine r_dup2 (pc := 15) dX10_comes_15 rfl rfl ?_
  refine inb_k h (fun b3 h => ?_)
  refine r_iald (pc := 16) (i := 17) (v1.toNatClampNeg) rfl nLM_17 kLM_17 lLM_17 b3 dX10_comes_16 ?_
  refine r_iload_n (pc := 17) 2 dX10_comes_17 rfl rfl ?_
  refine r_iadd (pc := 18) dX10_comes_18 ?_
  refine inb_k h (fun b4 h => ?_)
  refine r_iast (pc := 19) (i := 17) (v1.toNatClampNeg) ((m1 17 v1.toNatClampNeg) + v2) rfl rfl nLM_17 kLM_17 lLM_17 b4 dX10_comes_19 ?_
  refine g_bm h (fun m2 em2 h => ?_)
  refine r_aload_n (pc := 20) 0 dX10_comes_20 rfl rfl ?_
  refine r_iload_n (pc := 21) 3 dX10_comes_21 rfl rfl ?_
  refine r_iload_n (pc := 22) 2 dX10_comes_22 rfl rfl ?_
  refine bo_k h (fun z1 hz1 h => ?_)
  refine r_callV (pc := 23) (i := 0) (As := [.int v3, .int v2]) (rest := []) lkRX10_209 (ceX10_told _ _ m2 v3 v2 hz1) nLM_0 kLM_0 (by decide) rfl ⟨Nat.le_of_ble_eq_true rfl, Nat.le_of_ble_eq_true rfl⟩ rfl rfl (Nat.le_of_ble_eq_true rfl) dX10_comes_23 rfl ?_
  exact r_vret (pc := 26) rfl dX10_comes_26 (Option.some.inj h)
theorem ceX10_comes (l : Launch) (d : SD) (σ : Mem) (v1 : Int32) (v2 : Int32) (v3 : Int32)  {r : Mem} (h : fX10_comes σ v1 v2 v3 = some r) : Me l d LM yX10_comes qX10_comes σ [.ref (d.2.2.1 0), .int v1, .int v2, .int v3] (none, r) := me_of (avs := fun d => [.ref (d.2.2.1 0), .int v1, .int v2, .int v3]) (by decide) rfl (Nat.le_of_ble_eq_true rfl) (fun E => gX10_comes E σ v1 v2 v3  h)
def fX10_gift (σ : Mem)  : Option (Int32 × Mem) :=
  bo (fX10_readGift σ) (fun z1 =>
  bm (mset z1.2 0 12 0) (fun m1 =>
  if z1.1 < 0 then
    (if m1 0 13 = 20 then
      (some ((-1000000003), m1))
    else
      (bi (m1 0 13) (fun x1 =>
      if inb x1 20 = true then
      (bm (mset m1 11 x1.toNatClampNeg (m1 0 36)) (fun m2 =>
      if inb x1 20 = true then
      (bm (mset m2 12 x1.toNatClampNeg (m2 0 37)) (fun m3 =>
      if inb x1 20 = true then
      (bm (mset m3 13 x1.toNatClampNeg (m3 0 38)) (fun m4 =>
      if inb x1 20 = true then
      (bm (mset m4 14 x1.toNatClampNeg (m4 0 39)) (fun m5 =>
      if inb x1 20 = true then
      (bm (mset m5 15 x1.toNatClampNeg (m5 0 35)) (fun m6 =>
      bm (mset m6 0 13 ((m6 0 13) + 1)) (fun m7 =>
      if m7 0 0 < m7 0 37 then
        (some (x1, m7))
      else
        (bo (fX10_comes m7 x1 (m7 0 35) 0) (fun z2 =>
        some (x1, z2))))))
      else none))
      else none))
      else none))
      else none))
      else none)))
  else
    (some ((-100) - z1.1, m1))))
set_option maxHeartbeats 4000000 in
set_option maxRecDepth 20000 in
theorem gX10_gift (E : XE) {r : Int32 × Mem} (σ : Mem)   (h : fX10_gift σ  = some r) : G E LM qX10_gift σ 0 [(0, .ref (xa E 0))] [] (some r.1, r.2) := by
  unfold fX10_gift at h
  refine r_aload_n (pc := 0) 0 dX10_gift_0 rfl rfl ?_
  refine bo_k h (fun z1 hz1 h => ?_)
  refine r_callV (pc := 1) (i := 0) (As := []) (rest := []) lkRX10_213 (ceX10_readGift _ _ σ hz1) nLM_0 kLM_0 (by decide) rfl ⟨Nat.le_of_ble_eq_true rfl, Nat.le_of_ble_eq_true rfl⟩ rfl rfl (Nat.le_of_ble_eq_true rfl) dX10_gift_1 rfl ?_
  refine r_istore_n (pc := 4) (lv' := [(1, .int z1.1), (0, .ref (xa E 0))]) dX10_gift_4 rfl (Nat.le_of_ble_eq_true rfl) rfl ?_
  refine r_aload_n (pc := 5) 1 dX10_gift_5 rfl rfl ?_
  refine r_iconst (pc := 6) dX10_gift_6 ci_0 ?_
  refine r_putI (pc := 7) (i := 0) fpRX10_141 nLM_0 kLM_0 (by decide) rfl rfl dX10_gift_7 ?_
  refine g_bm h (fun m1 em1 h => ?_)
  refine r_iload_n (pc := 10) 0 dX10_gift_10 rfl rfl ?_
  refine r_if_lt (pc := 11) 19 dX10_gift_11 (by decide) h (fun c1 h => ?_) (fun c1 h => ?_)
  · refine r_aload_n (pc := 19) 1 dX10_gift_19 rfl rfl ?_
    refine r_getI (pc := 20) (i := 0) fdRX10_92 nLM_0 kLM_0 (by decide) dX10_gift_20 ?_
    refine r_bipush (pc := 23) dX10_gift_23 cb_20 ?_
    refine r_icmp_ne (pc := 25) 31 dX10_gift_25 (by decide) h (fun c2 h => ?_) (fun c2 h => ?_)
    · refine r_ldc (pc := 28) w_895 dX10_gift_28 ?_
      exact r_iretW (pc := 30) rfl dX10_gift_30 h
    · refine r_aload_n (pc := 31) 1 dX10_gift_31 rfl rfl ?_
      refine r_getI (pc := 32) (i := 0) fdRX10_92 nLM_0 kLM_0 (by decide) dX10_gift_32 ?_
      refine g_bi h (fun x1 ex1 h => ?_)
      refine r_istore_n (pc := 35) (lv' := [(2, .int x1), (1, .int z1.1), (0, .ref (xa E 0))]) dX10_gift_35 rfl (Nat.le_of_ble_eq_true rfl) rfl ?_
      refine r_aload_n (pc := 36) 2 dX10_gift_36 rfl rfl ?_
      refine r_getR (pc := 37) (i := 0) (j := 11) fdRX10_41 nLM_0 kLM_0 (by decide) rfl dX10_gift_37 ?_
      refine r_iload_n (pc := 40) 0 dX10_gift_40 rfl rfl ?_
      refine r_aload_n (pc := 41) 2 dX10_gift_41 rfl rfl ?_
      refine r_getI (pc := 42) (i := 0) fdRX10_191 nLM_0 kLM_0 (by decide) dX10_gift_42 ?_
      refine inb_k h (fun b1 h => ?_)
      refine r_iast (pc := 45) (i := 11) (x1.toNatClampNeg) (m1 0 36) rfl rfl nLM_11 kLM_11 lLM_11 b1 dX10_gift_45 ?_
      refine g_bm h (fun m2 em2 h => ?_)
      refine r_aload_n (pc := 46) 2 dX10_gift_46 rfl rfl ?_
      refine r_getR (pc := 47) (i := 0) (j := 12) fdRX10_44 nLM_0 kLM_0 (by decide) rfl dX10_gift_47 ?_
      refine r_iload_n (pc := 50) 0 dX10_gift_50 rfl rfl ?_
      refine r_aload_n (pc := 51) 2 dX10_gift_51 rfl rfl ?_
      refine r_getI (pc := 52) (i := 0) fdRX10_194 nLM_0 kLM_0 (by decide) dX10_gift_52 ?_
      refine inb_k h (fun b2 h => ?_)
      refine r_iast (pc := 55) (i := 12) (x1.toNatClampNeg) (m2 0 37) rfl rfl nLM_12 kLM_12 lLM_12 b2 dX10_gift_55 ?_
      refine g_bm h (fun m3 em3 h => ?_)
      refine r_aload_n (pc := 56) 2 dX10_gift_56 rfl rfl ?_
      refine r_getR (pc := 57) (i := 0) (j := 13) fdRX10_47 nLM_0 kLM_0 (by decide) rfl dX10_gift_57 ?_
      refine r_iload_n (pc := 60) 0 dX10_gift_60 rfl rfl ?_
      refine r_aload_n (pc := 61) 2 dX10_gift_61 rfl rfl ?_
      refine r_getI (pc := 62) (i := 0) fdRX10_197 nLM_0 kLM_0 (by decide) dX10_gift_62 ?_
      refine inb_k h (fun b3 h => ?_)
      refine r_iast (pc := 65) (i := 13) (x1.toNatClampNeg) (m3 0 38) rfl rfl nLM_13 kLM_13 lLM_13 b3 dX10_gift_65 ?_
      refine g_bm h (fun m4 em4 h => ?_)
      refine r_aload_n (pc := 66) 2 dX10_gift_66 rfl rfl ?_
      refine r_getR (pc := 67) (i := 0) (j := 14) fdRX10_50 nLM_0 kLM_0 (by decide) rfl dX10_gift_67 ?_
      refine r_iload_n (pc := 70) 0 dX10_gift_70 rfl rfl ?_
      refine r_aload_n (pc := 71) 2 dX10_gift_71 rfl rfl ?_
      refine r_getI (pc := 72) (i := 0) fdRX10_200 nLM_0 kLM_0 (by decide) dX10_gift_72 ?_
      refine inb_k h (fun b4 h => ?_)
      refine r_iast (pc := 75) (i := 14) (x1.toNatClampNeg) (m4 0 39) rfl rfl nLM_14 kLM_14 lLM_14 b4 dX10_gift_75 ?_
      refine g_bm h (fun m5 em5 h => ?_)
      refine r_aload_n (pc := 76) 2 dX10_gift_76 rfl rfl ?_
      refine r_getR (pc := 77) (i := 0) (j := 15) fdRX10_53 nLM_0 kLM_0 (by decide) rfl dX10_gift_77 ?_
      refine r_iload_n (pc := 80) 0 dX10_gift_80 rfl rfl ?_
      refine r_aload_n (pc := 81) 2 dX10_gift_81 rfl rfl ?_
      refine r_getI (pc := 82) (i := 0) fdRX10_180 nLM_0 kLM_0 (by decide) dX10_gift_82 ?_
      refine inb_k h (fun b5 h => ?_)
      refine r_iast (pc := 85) (i := 15) (x1.toNatClampNeg) (m5 0 35) rfl rfl nLM_15 kLM_15 lLM_15 b5 dX10_gift_85 ?_
      refine g_bm h (fun m6 em6 h => ?_)
      refine r_aload_n (pc := 86) 2 dX10_gift_86 rfl rfl ?_
      refine r_dup (pc := 87) dX10_gift_87 rfl ?_
      refine r_getI (pc := 88) (i := 0) fdRX10_92 nLM_0 kLM_0 (by decide) dX10_gift_88 ?_
      refine r_iconst (pc := 91) dX10_gift_91 ci_1 ?_
      refine r_iadd (pc := 92) dX10_gift_92 ?_
      refine r_putI (pc := 93) (i := 0) fpRX10_92 nLM_0 kLM_0 (by decide) rfl rfl dX10_gift_93 ?_
      refine g_bm h (fun m7 em7 h => ?_)
      refine r_aload_n (pc := 96) 2 dX10_gift_96 rfl rfl ?_
      refine r_getI (pc := 97) (i := 0) fdRX10_194 nLM_0 kLM_0 (by decide) dX10_gift_97 ?_
      refine r_aload_n (pc := 100) 2 dX10_gift_100 rfl rfl ?_
      refine r_getI (pc := 101) (i := 0) fdRX10_103 nLM_0 kLM_0 (by decide) dX10_gift_101 ?_
      refine r_icmp_gt (pc := 104) 117 dX10_gift_104 (by decide) h (fun c3 h => ?_) (fun c3 h => ?_)
      · refine r_iload_n (pc := 117) 0 dX10_gift_117 rfl rfl ?_
        exact r_iretW (pc := 118) rfl dX10_gift_118 h
      · refine r_aload_n (pc := 107) 2 dX10_gift_107 rfl rfl ?_
        refine r_iload_n (pc := 108) 0 dX10_gift_108 rfl rfl ?_
        refine r_aload_n (pc := 109) 2 dX10_gift_109 rfl rfl ?_
        refine r_getI (pc := 110) (i := 0) fdRX10_180 nLM_0 kLM_0 (by decide) dX10_gift_110 ?_
        refine r_iconst (pc := 113) dX10_gift_113 ci_0 ?_
        refine bo_k h (fun z2 hz2 h => ?_)
        refine r_callV (pc := 114) (i := 0) (As := [.int x1, .int (m7 0 35), .int 0]) (rest := []) lkRX10_216 (ceX10_comes _ _ m7 x1 (m7 0 35) 0 hz2) nLM_0 kLM_0 (by decide) rfl ⟨Nat.le_of_ble_eq_true rfl, Nat.le_of_ble_eq_true rfl⟩ rfl rfl (Nat.le_of_ble_eq_true rfl) dX10_gift_114 rfl ?_
        refine r_iload_n (pc := 117) 0 dX10_gift_117 rfl rfl ?_
        exact r_iretW (pc := 118) rfl dX10_gift_118 h
  · refine r_bipush (pc := 14) dX10_gift_14 cb_m100 ?_
    refine r_iload_n (pc := 16) 0 dX10_gift_16 rfl rfl ?_
    refine r_isub (pc := 17) dX10_gift_17 ?_
    exact r_iretW (pc := 18) rfl dX10_gift_18 h
theorem ceX10_gift (l : Launch) (d : SD) (σ : Mem)   {r : Int32 × Mem} (h : fX10_gift σ  = some r) : Me l d LM yX10_gift qX10_gift σ [.ref (d.2.2.1 0)] (some r.1, r.2) := me_of (avs := fun d => [.ref (d.2.2.1 0)]) (by decide) rfl (Nat.le_of_ble_eq_true rfl) (fun E => gX10_gift E σ   h)
def fX10_isPurse (σ : Mem) (v1 : Int32) : Int32 :=
  fX10_isIn σ v1 0 ((σ 0 13) - 1)
set_option maxHeartbeats 4000000 in
set_option maxRecDepth 20000 in
theorem gX10_isPurse (E : XE) {r : Int32} (σ : Mem) (v1 : Int32)  (h : fX10_isPurse σ v1 = r) : G E LM qX10_isPurse σ 0 [(0, .ref (xa E 0)), (1, .int v1)] [] (some r, σ) := by
  unfold fX10_isPurse at h
  refine r_iload_n (pc := 0) 1 dX10_isPurse_0 rfl rfl ?_
  refine r_iconst (pc := 1) dX10_isPurse_1 ci_0 ?_
  refine r_aload_n (pc := 2) 0 dX10_isPurse_2 rfl rfl ?_
  refine r_getI (pc := 3) (i := 0) fdRX10_92 nLM_0 kLM_0 (by decide) dX10_isPurse_3 ?_
  refine r_iconst (pc := 6) dX10_isPurse_6 ci_1 ?_
  refine r_isub (pc := 7) dX10_isPurse_7 ?_
  refine r_callS (pc := 8) (As := [.int v1, .int 0, .int ((σ 0 13) - 1)]) (rest := []) lkRX10_99 (ceX10_isIn _ _ σ v1 0 ((σ 0 13) - 1) rfl) ⟨Nat.le_of_ble_eq_true rfl, Nat.le_of_ble_eq_true rfl⟩ rfl rfl (Nat.le_of_ble_eq_true rfl) dX10_isPurse_8 rfl ?_
  exact r_zret (pc := 11) rfl (nbX10_isIn) dX10_isPurse_11 h rfl
theorem ceX10_isPurse (l : Launch) (d : SD) (σ : Mem) (v1 : Int32)  {r : Int32} (h : fX10_isPurse σ v1 = r) : Me l d LM yX10_isPurse qX10_isPurse σ [.ref (d.2.2.1 0), .int v1] (some r, σ) := me_of (avs := fun d => [.ref (d.2.2.1 0), .int v1]) (by decide) rfl (Nat.le_of_ble_eq_true rfl) (fun E => gX10_isPurse E σ v1  h)
theorem nbX10_isPurse {σ : Mem} {v1 : Int32} : narrow .boolean (.int (fX10_isPurse σ v1)) = .int (fX10_isPurse σ v1) := by unfold fX10_isPurse; exact nbX10_isIn
def fX10_isOpen (σ : Mem) (v1 : Int32) : Option Int32 :=
  if inb v1 20 = true then
  (if inb v1 20 = true then
  (some (fX10_isIn σ (σ 0 0) (σ 12 v1.toNatClampNeg) (σ 13 v1.toNatClampNeg)))
  else none)
  else none
set_option maxHeartbeats 4000000 in
set_option maxRecDepth 20000 in
theorem gX10_isOpen (E : XE) {r : Int32} (σ : Mem) (v1 : Int32)  (h : fX10_isOpen σ v1 = some r) : G E LM qX10_isOpen σ 0 [(0, .ref (xa E 0)), (1, .int v1)] [] (some r, σ) := by
  unfold fX10_isOpen at h
  refine r_aload_n (pc := 0) 0 dX10_isOpen_0 rfl rfl ?_
  refine r_getI (pc := 1) (i := 0) fdRX10_103 nLM_0 kLM_0 (by decide) dX10_isOpen_1 ?_
  refine r_aload_n (pc := 4) 0 dX10_isOpen_4 rfl rfl ?_
  refine r_getR (pc := 5) (i := 0) (j := 12) fdRX10_44 nLM_0 kLM_0 (by decide) rfl dX10_isOpen_5 ?_
  refine r_iload_n (pc := 8) 1 dX10_isOpen_8 rfl rfl ?_
  refine inb_k h (fun b1 h => ?_)
  refine r_iald (pc := 9) (i := 12) (v1.toNatClampNeg) rfl nLM_12 kLM_12 lLM_12 b1 dX10_isOpen_9 ?_
  refine r_aload_n (pc := 10) 0 dX10_isOpen_10 rfl rfl ?_
  refine r_getR (pc := 11) (i := 0) (j := 13) fdRX10_47 nLM_0 kLM_0 (by decide) rfl dX10_isOpen_11 ?_
  refine r_iload_n (pc := 14) 1 dX10_isOpen_14 rfl rfl ?_
  refine inb_k h (fun b2 h => ?_)
  refine r_iald (pc := 15) (i := 13) (v1.toNatClampNeg) rfl nLM_13 kLM_13 lLM_13 b2 dX10_isOpen_15 ?_
  refine r_callS (pc := 16) (As := [.int (σ 0 0), .int (σ 12 v1.toNatClampNeg), .int (σ 13 v1.toNatClampNeg)]) (rest := []) lkRX10_99 (ceX10_isIn _ _ σ (σ 0 0) (σ 12 v1.toNatClampNeg) (σ 13 v1.toNatClampNeg) rfl) ⟨Nat.le_of_ble_eq_true rfl, Nat.le_of_ble_eq_true rfl⟩ rfl rfl (Nat.le_of_ble_eq_true rfl) dX10_isOpen_16 rfl ?_
  exact r_zret (pc := 19) rfl (nbX10_isIn) dX10_isOpen_19 (Option.some.inj h) rfl
theorem ceX10_isOpen (l : Launch) (d : SD) (σ : Mem) (v1 : Int32)  {r : Int32} (h : fX10_isOpen σ v1 = some r) : Me l d LM yX10_isOpen qX10_isOpen σ [.ref (d.2.2.1 0), .int v1] (some r, σ) := me_of (avs := fun d => [.ref (d.2.2.1 0), .int v1]) (by decide) rfl (Nat.le_of_ble_eq_true rfl) (fun E => gX10_isOpen E σ v1  h)
def fX10_purse (σ : Mem) (v1 : Int32) (v2 : Int32) : Option Int32 :=
  if fX10_isPurse σ v1 = 0 then
    (some ((-1000000001)))
  else
    (if fX10_isIn σ v2 0 7 = 0 then
      (some ((-1000000001)))
    else
      (if v2 = 0 then
        (if inb v1 20 = true then
        (some (σ 11 v1.toNatClampNeg))
        else none)
      else
        if v2 = 1 then
        (if inb v1 20 = true then
        (some (σ 12 v1.toNatClampNeg))
        else none)
      else
        if v2 = 2 then
        (if inb v1 20 = true then
        (some (σ 13 v1.toNatClampNeg))
        else none)
      else
        if v2 = 3 then
        (if inb v1 20 = true then
        (some (σ 16 v1.toNatClampNeg))
        else none)
      else
        if v2 = 4 then
        (if inb v1 20 = true then
        (some (σ 14 v1.toNatClampNeg))
        else none)
      else
        if v2 = 5 then
        (bo (fX10_isOpen σ v1) (fun z1 =>
        if z1 = 0 then
          (some (0))
        else
          (some (1))))
      else
        if v2 = 6 then
        (if inb v1 20 = true then
        (some (σ 17 v1.toNatClampNeg))
        else none)
      else
        (if inb v1 20 = true then
      (some (σ 18 v1.toNatClampNeg))
      else none)))
set_option maxHeartbeats 4000000 in
set_option maxRecDepth 20000 in
theorem gX10_purse (E : XE) {r : Int32} (σ : Mem) (v1 : Int32) (v2 : Int32)  (h : fX10_purse σ v1 v2 = some r) : G E LM qX10_purse σ 0 [(0, .ref (xa E 0)), (1, .int v1), (2, .int v2)] [] (some r, σ) := by
  unfold fX10_purse at h
  refine r_aload_n (pc := 0) 0 dX10_purse_0 rfl rfl ?_
  refine r_iload_n (pc := 1) 1 dX10_purse_1 rfl rfl ?_
  refine r_callV (pc := 2) (i := 0) (As := [.int v1]) (rest := []) lkRX10_220 (ceX10_isPurse _ _ σ v1 rfl) nLM_0 kLM_0 (by decide) rfl ⟨Nat.le_of_ble_eq_true rfl, Nat.le_of_ble_eq_true rfl⟩ rfl rfl (Nat.le_of_ble_eq_true rfl) dX10_purse_2 rfl ?_
  refine r_if_eq (pc := 5) 18 dX10_purse_5 (by decide) h (fun c1 h => ?_) (fun c1 h => ?_)
  · refine r_ldc (pc := 18) w_894 dX10_purse_18 ?_
    exact r_iret (pc := 20) rfl dX10_purse_20 (Option.some.inj h) rfl
  · refine r_iload_n (pc := 8) 2 dX10_purse_8 rfl rfl ?_
    refine r_iconst (pc := 9) dX10_purse_9 ci_0 ?_
    refine r_bipush (pc := 10) dX10_purse_10 cb_7 ?_
    refine r_callS (pc := 12) (As := [.int v2, .int 0, .int 7]) (rest := []) lkRX10_99 (ceX10_isIn _ _ σ v2 0 7 rfl) ⟨Nat.le_of_ble_eq_true rfl, Nat.le_of_ble_eq_true rfl⟩ rfl rfl (Nat.le_of_ble_eq_true rfl) dX10_purse_12 rfl ?_
    refine r_if_ne (pc := 15) 21 dX10_purse_15 (by decide) h (fun c2 h => ?_) (fun c2 h => ?_)
    · refine r_ldc (pc := 18) w_894 dX10_purse_18 ?_
      exact r_iret (pc := 20) rfl dX10_purse_20 (Option.some.inj h) rfl
    · refine r_iload_n (pc := 21) 2 dX10_purse_21 rfl rfl ?_
      refine ite_k h (fun c3 h => ?_) (fun c3 h => ?_)
      · refine r_tabIn (pc := 22) (off := 42) 64 c3 dX10_purse_22 (by decide) (by decide) (by decide) (by decide) ?_
        refine r_aload_n (pc := 64) 0 dX10_purse_64 rfl rfl ?_
        refine r_getR (pc := 65) (i := 0) (j := 11) fdRX10_41 nLM_0 kLM_0 (by decide) rfl dX10_purse_65 ?_
        refine r_iload_n (pc := 68) 1 dX10_purse_68 rfl rfl ?_
        refine inb_k h (fun b1 h => ?_)
        refine r_iald (pc := 69) (i := 11) (v1.toNatClampNeg) rfl nLM_11 kLM_11 lLM_11 b1 dX10_purse_69 ?_
        exact r_iret (pc := 70) rfl dX10_purse_70 (Option.some.inj h) rfl
      refine ite_k h (fun c4 h => ?_) (fun c4 h => ?_)
      · refine r_tabIn (pc := 22) (off := 49) 71 c4 dX10_purse_22 (by decide) (by decide) (by decide) (by decide) ?_
        refine r_aload_n (pc := 71) 0 dX10_purse_71 rfl rfl ?_
        refine r_getR (pc := 72) (i := 0) (j := 12) fdRX10_44 nLM_0 kLM_0 (by decide) rfl dX10_purse_72 ?_
        refine r_iload_n (pc := 75) 1 dX10_purse_75 rfl rfl ?_
        refine inb_k h (fun b2 h => ?_)
        refine r_iald (pc := 76) (i := 12) (v1.toNatClampNeg) rfl nLM_12 kLM_12 lLM_12 b2 dX10_purse_76 ?_
        exact r_iret (pc := 77) rfl dX10_purse_77 (Option.some.inj h) rfl
      refine ite_k h (fun c5 h => ?_) (fun c5 h => ?_)
      · refine r_tabIn (pc := 22) (off := 56) 78 c5 dX10_purse_22 (by decide) (by decide) (by decide) (by decide) ?_
        refine r_aload_n (pc := 78) 0 dX10_purse_78 rfl rfl ?_
        refine r_getR (pc := 79) (i := 0) (j := 13) fdRX10_47 nLM_0 kLM_0 (by decide) rfl dX10_purse_79 ?_
        refine r_iload_n (pc := 82) 1 dX10_purse_82 rfl rfl ?_
        refine inb_k h (fun b3 h => ?_)
        refine r_iald (pc := 83) (i := 13) (v1.toNatClampNeg) rfl nLM_13 kLM_13 lLM_13 b3 dX10_purse_83 ?_
        exact r_iret (pc := 84) rfl dX10_purse_84 (Option.some.inj h) rfl
      refine ite_k h (fun c6 h => ?_) (fun c6 h => ?_)
      · refine r_tabIn (pc := 22) (off := 63) 85 c6 dX10_purse_22 (by decide) (by decide) (by decide) (by decide) ?_
        refine r_aload_n (pc := 85) 0 dX10_purse_85 rfl rfl ?_
        refine r_getR (pc := 86) (i := 0) (j := 16) fdRX10_56 nLM_0 kLM_0 (by decide) rfl dX10_purse_86 ?_
        refine r_iload_n (pc := 89) 1 dX10_purse_89 rfl rfl ?_
        refine inb_k h (fun b4 h => ?_)
        refine r_iald (pc := 90) (i := 16) (v1.toNatClampNeg) rfl nLM_16 kLM_16 lLM_16 b4 dX10_purse_90 ?_
        exact r_iret (pc := 91) rfl dX10_purse_91 (Option.some.inj h) rfl
      refine ite_k h (fun c7 h => ?_) (fun c7 h => ?_)
      · refine r_tabIn (pc := 22) (off := 70) 92 c7 dX10_purse_22 (by decide) (by decide) (by decide) (by decide) ?_
        refine r_aload_n (pc := 92) 0 dX10_purse_92 rfl rfl ?_
        refine r_getR (pc := 93) (i := 0) (j := 14) fdRX10_50 nLM_0 kLM_0 (by decide) rfl dX10_purse_93 ?_
        refine r_iload_n (pc := 96) 1 dX10_purse_96 rfl rfl ?_
        refine inb_k h (fun b5 h => ?_)
        refine r_iald (pc := 97) (i := 14) (v1.toNatClampNeg) rfl nLM_14 kLM_14 lLM_14 b5 dX10_purse_97 ?_
        exact r_iret (pc := 98) rfl dX10_purse_98 (Option.some.inj h) rfl
      refine ite_k h (fun c8 h => ?_) (fun c8 h => ?_)
      · refine r_tabIn (pc := 22) (off := 77) 99 c8 dX10_purse_22 (by decide) (by decide) (by decide) (by decide) ?_
        refine r_aload_n (pc := 99) 0 dX10_purse_99 rfl rfl ?_
        refine r_iload_n (pc := 100) 1 dX10_purse_100 rfl rfl ?_
        refine bo_k h (fun z1 hz1 h => ?_)
        refine r_callV (pc := 101) (i := 0) (As := [.int v1]) (rest := []) lkRX10_223 (ceX10_isOpen _ _ σ v1 hz1) nLM_0 kLM_0 (by decide) rfl ⟨Nat.le_of_ble_eq_true rfl, Nat.le_of_ble_eq_true rfl⟩ rfl rfl (Nat.le_of_ble_eq_true rfl) dX10_purse_101 rfl ?_
        refine r_if_eq (pc := 104) 111 dX10_purse_104 (by decide) h (fun c9 h => ?_) (fun c9 h => ?_)
        · refine r_iconst (pc := 111) dX10_purse_111 ci_0 ?_
          exact r_iret (pc := 112) rfl dX10_purse_112 (Option.some.inj h) rfl
        · refine r_iconst (pc := 107) dX10_purse_107 ci_1 ?_
          refine r_goto (pc := 108) 112 dX10_purse_108 (by decide) ?_
          exact r_iret (pc := 112) rfl dX10_purse_112 (Option.some.inj h) rfl
      refine ite_k h (fun c10 h => ?_) (fun c10 h => ?_)
      · refine r_tabIn (pc := 22) (off := 91) 113 c10 dX10_purse_22 (by decide) (by decide) (by decide) (by decide) ?_
        refine r_aload_n (pc := 113) 0 dX10_purse_113 rfl rfl ?_
        refine r_getR (pc := 114) (i := 0) (j := 17) fdRX10_59 nLM_0 kLM_0 (by decide) rfl dX10_purse_114 ?_
        refine r_iload_n (pc := 117) 1 dX10_purse_117 rfl rfl ?_
        refine inb_k h (fun b6 h => ?_)
        refine r_iald (pc := 118) (i := 17) (v1.toNatClampNeg) rfl nLM_17 kLM_17 lLM_17 b6 dX10_purse_118 ?_
        exact r_iret (pc := 119) rfl dX10_purse_119 (Option.some.inj h) rfl
      refine r_tabOut (pc := 22) 120 dX10_purse_22 (by have ec3 := ti_ne (z := 0) c3 (by decide); have ec4 := ti_ne (z := 1) c4 (by decide); have ec5 := ti_ne (z := 2) c5 (by decide); have ec6 := ti_ne (z := 3) c6 (by decide); have ec7 := ti_ne (z := 4) c7 (by decide); have ec8 := ti_ne (z := 5) c8 (by decide); have ec10 := ti_ne (z := 6) c10 (by decide); omega) (by decide) ?_
      refine r_aload_n (pc := 120) 0 dX10_purse_120 rfl rfl ?_
      refine r_getR (pc := 121) (i := 0) (j := 18) fdRX10_62 nLM_0 kLM_0 (by decide) rfl dX10_purse_121 ?_
      refine r_iload_n (pc := 124) 1 dX10_purse_124 rfl rfl ?_
      refine inb_k h (fun b7 h => ?_)
      refine r_iald (pc := 125) (i := 18) (v1.toNatClampNeg) rfl nLM_18 kLM_18 lLM_18 b7 dX10_purse_125 ?_
      exact r_iret (pc := 126) rfl dX10_purse_126 (Option.some.inj h) rfl
theorem ceX10_purse (l : Launch) (d : SD) (σ : Mem) (v1 : Int32) (v2 : Int32)  {r : Int32} (h : fX10_purse σ v1 v2 = some r) : Me l d LM yX10_purse qX10_purse σ [.ref (d.2.2.1 0), .int v1, .int v2] (some r, σ) := me_of (avs := fun d => [.ref (d.2.2.1 0), .int v1, .int v2]) (by decide) rfl (Nat.le_of_ble_eq_true rfl) (fun E => gX10_purse E σ v1 v2  h)
def fX10_isEnd (σ : Mem) (v1 : Int32) : Int32 :=
  fX10_isIn σ v1 0 (1 + (σ 0 1))
set_option maxHeartbeats 4000000 in
set_option maxRecDepth 20000 in
theorem gX10_isEnd (E : XE) {r : Int32} (σ : Mem) (v1 : Int32)  (h : fX10_isEnd σ v1 = r) : G E LM qX10_isEnd σ 0 [(0, .ref (xa E 0)), (1, .int v1)] [] (some r, σ) := by
  unfold fX10_isEnd at h
  refine r_iload_n (pc := 0) 1 dX10_isEnd_0 rfl rfl ?_
  refine r_iconst (pc := 1) dX10_isEnd_1 ci_0 ?_
  refine r_iconst (pc := 2) dX10_isEnd_2 ci_1 ?_
  refine r_aload_n (pc := 3) 0 dX10_isEnd_3 rfl rfl ?_
  refine r_getI (pc := 4) (i := 0) fdRX10_96 nLM_0 kLM_0 (by decide) dX10_isEnd_4 ?_
  refine r_iadd (pc := 7) dX10_isEnd_7 ?_
  refine r_callS (pc := 8) (As := [.int v1, .int 0, .int (1 + (σ 0 1))]) (rest := []) lkRX10_99 (ceX10_isIn _ _ σ v1 0 (1 + (σ 0 1)) rfl) ⟨Nat.le_of_ble_eq_true rfl, Nat.le_of_ble_eq_true rfl⟩ rfl rfl (Nat.le_of_ble_eq_true rfl) dX10_isEnd_8 rfl ?_
  exact r_zret (pc := 11) rfl (nbX10_isIn) dX10_isEnd_11 h rfl
theorem ceX10_isEnd (l : Launch) (d : SD) (σ : Mem) (v1 : Int32)  {r : Int32} (h : fX10_isEnd σ v1 = r) : Me l d LM yX10_isEnd qX10_isEnd σ [.ref (d.2.2.1 0), .int v1] (some r, σ) := me_of (avs := fun d => [.ref (d.2.2.1 0), .int v1]) (by decide) rfl (Nat.le_of_ble_eq_true rfl) (fun E => gX10_isEnd E σ v1  h)
theorem nbX10_isEnd {σ : Mem} {v1 : Int32} : narrow .boolean (.int (fX10_isEnd σ v1)) = .int (fX10_isEnd σ v1) := by unfold fX10_isEnd; exact nbX10_isIn
def fX10_serves_40  (σ : Mem) (v2 : Int32) (v3 : Int32) : Option Int32 :=
  if v3 < 4 then
    (some (0))
  else
    (if v2 = (2 + v3) - 4 then
      (some (1))
    else
      (some (0)))
set_option maxHeartbeats 4000000 in
set_option maxRecDepth 20000 in
theorem gX10_serves_40 (E : XE)  {r : Int32}  (σ : Mem) (v2 : Int32) (v3 : Int32)  (h : fX10_serves_40 σ v2 v3 = some r) : G E LM qX10_serves σ 40 [(2, .int v2), (3, .int v3)] [] (some r, σ) := by
  unfold fX10_serves_40 at h
  refine r_iload_n (pc := 40) 1 dX10_serves_40 rfl rfl ?_
  refine r_iconst (pc := 41) dX10_serves_41 ci_4 ?_
  refine r_icmp_lt (pc := 42) 58 dX10_serves_42 (by decide) h (fun c1 h => ?_) (fun c1 h => ?_)
  · refine r_iconst (pc := 58) dX10_serves_58 ci_0 ?_
    exact r_zret (pc := 59) rfl rfl dX10_serves_59 (Option.some.inj h) rfl
  · refine r_iload_n (pc := 45) 0 dX10_serves_45 rfl rfl ?_
    refine r_iconst (pc := 46) dX10_serves_46 ci_2 ?_
    refine r_iload_n (pc := 47) 1 dX10_serves_47 rfl rfl ?_
    refine r_iadd (pc := 48) dX10_serves_48 ?_
    refine r_iconst (pc := 49) dX10_serves_49 ci_4 ?_
    refine r_isub (pc := 50) dX10_serves_50 ?_
    refine r_icmp_ne (pc := 51) 58 dX10_serves_51 (by decide) h (fun c2 h => ?_) (fun c2 h => ?_)
    · refine r_iconst (pc := 54) dX10_serves_54 ci_1 ?_
      refine r_goto (pc := 55) 59 dX10_serves_55 (by decide) ?_
      exact r_zret (pc := 59) rfl rfl dX10_serves_59 (Option.some.inj h) rfl
    · refine r_iconst (pc := 58) dX10_serves_58 ci_0 ?_
      exact r_zret (pc := 59) rfl rfl dX10_serves_59 (Option.some.inj h) rfl
def fX10_serves_30  (σ : Mem) (v2 : Int32) (v3 : Int32) : Option Int32 :=
  if v3 = 1 then
    (if 2 ≤ v2 then
      (some (1))
    else
      (fX10_serves_40 σ v2 v3))
  else
    (fX10_serves_40 σ v2 v3)
set_option maxHeartbeats 4000000 in
set_option maxRecDepth 20000 in
theorem gX10_serves_30 (E : XE)  {r : Int32}  (σ : Mem) (v2 : Int32) (v3 : Int32)  (h : fX10_serves_30 σ v2 v3 = some r) : G E LM qX10_serves σ 30 [(2, .int v2), (3, .int v3)] [] (some r, σ) := by
  unfold fX10_serves_30 at h
  refine r_iload_n (pc := 30) 1 dX10_serves_30 rfl rfl ?_
  refine r_iconst (pc := 31) dX10_serves_31 ci_1 ?_
  refine r_icmp_ne (pc := 32) 40 dX10_serves_32 (by decide) h (fun c1 h => ?_) (fun c1 h => ?_)
  · refine r_iload_n (pc := 35) 0 dX10_serves_35 rfl rfl ?_
    refine r_iconst (pc := 36) dX10_serves_36 ci_2 ?_
    refine r_icmp_ge (pc := 37) 54 dX10_serves_37 (by decide) h (fun c2 h => ?_) (fun c2 h => ?_)
    · refine r_iconst (pc := 54) dX10_serves_54 ci_1 ?_
      refine r_goto (pc := 55) 59 dX10_serves_55 (by decide) ?_
      exact r_zret (pc := 59) rfl rfl dX10_serves_59 (Option.some.inj h) rfl
    · exact gX10_serves_40 E σ v2 v3 h
  · exact gX10_serves_40 E σ v2 v3 h
def fX10_serves_20  (σ : Mem) (v2 : Int32) (v3 : Int32) : Option Int32 :=
  if v3 = 3 then
    (if v2 = 1 then
      (some (1))
    else
      (fX10_serves_30 σ v2 v3))
  else
    (fX10_serves_30 σ v2 v3)
set_option maxHeartbeats 4000000 in
set_option maxRecDepth 20000 in
theorem gX10_serves_20 (E : XE)  {r : Int32}  (σ : Mem) (v2 : Int32) (v3 : Int32)  (h : fX10_serves_20 σ v2 v3 = some r) : G E LM qX10_serves σ 20 [(2, .int v2), (3, .int v3)] [] (some r, σ) := by
  unfold fX10_serves_20 at h
  refine r_iload_n (pc := 20) 1 dX10_serves_20 rfl rfl ?_
  refine r_iconst (pc := 21) dX10_serves_21 ci_3 ?_
  refine r_icmp_ne (pc := 22) 30 dX10_serves_22 (by decide) h (fun c1 h => ?_) (fun c1 h => ?_)
  · refine r_iload_n (pc := 25) 0 dX10_serves_25 rfl rfl ?_
    refine r_iconst (pc := 26) dX10_serves_26 ci_1 ?_
    refine r_icmp_eq (pc := 27) 54 dX10_serves_27 (by decide) h (fun c2 h => ?_) (fun c2 h => ?_)
    · refine r_iconst (pc := 54) dX10_serves_54 ci_1 ?_
      refine r_goto (pc := 55) 59 dX10_serves_55 (by decide) ?_
      exact r_zret (pc := 59) rfl rfl dX10_serves_59 (Option.some.inj h) rfl
    · exact gX10_serves_30 E σ v2 v3 h
  · exact gX10_serves_30 E σ v2 v3 h
def fX10_serves (σ : Mem) (v1 : Int32) (v2 : Int32) : Option Int32 :=
  if inb v1 20 = true then
  (bi (σ 11 v1.toNatClampNeg) (fun x1 =>
  if x1 = 0 then
    (some (1))
  else
    (if x1 = 2 then
      (if v2 = 0 then
        (some (1))
      else
        (fX10_serves_20 σ v2 x1))
    else
      (fX10_serves_20 σ v2 x1))))
  else none
set_option maxHeartbeats 4000000 in
set_option maxRecDepth 20000 in
theorem gX10_serves (E : XE) {r : Int32} (σ : Mem) (v1 : Int32) (v2 : Int32)  (h : fX10_serves σ v1 v2 = some r) : G E LM qX10_serves σ 0 [(0, .ref (xa E 0)), (1, .int v1), (2, .int v2)] [] (some r, σ) := by
  unfold fX10_serves at h
  refine r_aload_n (pc := 0) 0 dX10_serves_0 rfl rfl ?_
  refine r_getR (pc := 1) (i := 0) (j := 11) fdRX10_41 nLM_0 kLM_0 (by decide) rfl dX10_serves_1 ?_
  refine r_iload_n (pc := 4) 1 dX10_serves_4 rfl rfl ?_
  refine inb_k h (fun b1 h => ?_)
  refine r_iald (pc := 5) (i := 11) (v1.toNatClampNeg) rfl nLM_11 kLM_11 lLM_11 b1 dX10_serves_5 ?_
  refine g_bi h (fun x1 ex1 h => ?_)
  refine r_istore_n (pc := 6) (lv' := [(3, .int x1), (0, .ref (xa E 0)), (1, .int v1), (2, .int v2)]) dX10_serves_6 rfl (Nat.le_of_ble_eq_true rfl) rfl ?_
  refine r_iload_n (pc := 7) 0 dX10_serves_7 rfl rfl ?_
  refine r_if_eq (pc := 8) 54 dX10_serves_8 (by decide) h (fun c1 h => ?_) (fun c1 h => ?_)
  · refine r_iconst (pc := 54) dX10_serves_54 ci_1 ?_
    refine r_goto (pc := 55) 59 dX10_serves_55 (by decide) ?_
    exact r_zret (pc := 59) rfl rfl dX10_serves_59 (Option.some.inj h) rfl
  · refine r_iload_n (pc := 11) 0 dX10_serves_11 rfl rfl ?_
    refine r_iconst (pc := 12) dX10_serves_12 ci_2 ?_
    refine r_icmp_ne (pc := 13) 20 dX10_serves_13 (by decide) h (fun c2 h => ?_) (fun c2 h => ?_)
    · refine r_iload_n (pc := 16) 3 dX10_serves_16 rfl rfl ?_
      refine r_if_eq (pc := 17) 54 dX10_serves_17 (by decide) h (fun c3 h => ?_) (fun c3 h => ?_)
      · refine r_iconst (pc := 54) dX10_serves_54 ci_1 ?_
        refine r_goto (pc := 55) 59 dX10_serves_55 (by decide) ?_
        exact r_zret (pc := 59) rfl rfl dX10_serves_59 (Option.some.inj h) rfl
      · refine r_sub [3, 0] rfl ?_
        exact gX10_serves_20 E σ v2 x1 h
    · refine r_sub [3, 0] rfl ?_
      exact gX10_serves_20 E σ v2 x1 h
theorem ceX10_serves (l : Launch) (d : SD) (σ : Mem) (v1 : Int32) (v2 : Int32)  {r : Int32} (h : fX10_serves σ v1 v2 = some r) : Me l d LM yX10_serves qX10_serves σ [.ref (d.2.2.1 0), .int v1, .int v2] (some r, σ) := me_of (avs := fun d => [.ref (d.2.2.1 0), .int v1, .int v2]) (by decide) rfl (Nat.le_of_ble_eq_true rfl) (fun E => gX10_serves E σ v1 v2  h)
def fX10_fundsOf_4  : Nat → Mem → Int32 → Int32 → Int32 → Option Int32
  | 0, _, _, _, _ => none
  | n + 1, σ, v1, v2, v3 =>
    if σ 0 13 ≤ v3 then
      (some (v2))
    else
      (bo (fX10_isOpen σ v3) (fun z1 =>
      if z1 = 0 then
        (bi (v2 + 0) (fun x1 =>
        fX10_fundsOf_4 n σ v1 x1 (v3 + 1)))
      else
        (bo (fX10_serves σ v3 v1) (fun z2 =>
        if z2 = 0 then
          (bi (v2 + 0) (fun x2 =>
          fX10_fundsOf_4 n σ v1 x2 (v3 + 1)))
        else
          (if inb v3 20 = true then
          (bi (v2 + (σ 16 v3.toNatClampNeg)) (fun x3 =>
          fX10_fundsOf_4 n σ v1 x3 (v3 + 1)))
          else none)))))
set_option maxHeartbeats 4000000 in
set_option maxRecDepth 20000 in
theorem gX10_fundsOf_4 (E : XE)  {r : Int32}  (n : Nat) (σ : Mem) : ∀ (v1 : Int32) (v2 : Int32) (v3 : Int32), fX10_fundsOf_4 n σ v1 v2 v3 = some r → G E LM qX10_fundsOf σ 4 [(0, .ref (xa E 0)), (1, .int v1), (2, .int v2), (3, .int v3)] [] (some r, σ) := by
  induction n with
  | zero => intro v1 v2 v3 h; cases h
  | succ n ih =>
    intro v1 v2 v3 h
    unfold fX10_fundsOf_4 at h
    refine r_iload_n (pc := 4) 3 dX10_fundsOf_4 rfl rfl ?_
    refine r_aload_n (pc := 5) 0 dX10_fundsOf_5 rfl rfl ?_
    refine r_getI (pc := 6) (i := 0) fdRX10_92 nLM_0 kLM_0 (by decide) dX10_fundsOf_6 ?_
    refine r_icmp_ge (pc := 9) 48 dX10_fundsOf_9 (by decide) h (fun c1 h => ?_) (fun c1 h => ?_)
    · refine r_iload_n (pc := 48) 2 dX10_fundsOf_48 rfl rfl ?_
      exact r_iret (pc := 49) rfl dX10_fundsOf_49 (Option.some.inj h) rfl
    · refine r_iload_n (pc := 12) 2 dX10_fundsOf_12 rfl rfl ?_
      refine r_aload_n (pc := 13) 0 dX10_fundsOf_13 rfl rfl ?_
      refine r_iload_n (pc := 14) 3 dX10_fundsOf_14 rfl rfl ?_
      refine bo_k h (fun z1 hz1 h => ?_)
      refine r_callV (pc := 15) (i := 0) (As := [.int v3]) (rest := [.int v2]) lkRX10_223 (ceX10_isOpen _ _ σ v3 hz1) nLM_0 kLM_0 (by decide) rfl ⟨Nat.le_of_ble_eq_true rfl, Nat.le_of_ble_eq_true rfl⟩ rfl rfl (Nat.le_of_ble_eq_true rfl) dX10_fundsOf_15 rfl ?_
      refine r_if_eq (pc := 18) 39 dX10_fundsOf_18 (by decide) h (fun c2 h => ?_) (fun c2 h => ?_)
      · refine r_iconst (pc := 39) dX10_fundsOf_39 ci_0 ?_
        refine r_iadd (pc := 40) dX10_fundsOf_40 ?_
        refine g_bi h (fun x1 ex1 h => ?_)
        refine r_istore_n (pc := 41) (lv' := [(2, .int x1), (0, .ref (xa E 0)), (1, .int v1), (3, .int v3)]) dX10_fundsOf_41 rfl (Nat.le_of_ble_eq_true rfl) rfl ?_
        refine r_iinc (pc := 42) (v := v3 + 1) (lv' := [(3, .int (v3 + 1)), (2, .int x1), (0, .ref (xa E 0)), (1, .int v1)]) 3 dX10_fundsOf_42 rfl (by rw [ci_1]) (Nat.le_of_ble_eq_true rfl) rfl ?_
        refine r_goto (pc := 45) 4 dX10_fundsOf_45 (by decide) ?_
        refine r_sub [2, 3, 1, 0] rfl ?_
        exact ih v1 x1 (v3 + 1) h
      · refine r_aload_n (pc := 21) 0 dX10_fundsOf_21 rfl rfl ?_
        refine r_iload_n (pc := 22) 3 dX10_fundsOf_22 rfl rfl ?_
        refine r_iload_n (pc := 23) 1 dX10_fundsOf_23 rfl rfl ?_
        refine bo_k h (fun z2 hz2 h => ?_)
        refine r_callV (pc := 24) (i := 0) (As := [.int v3, .int v1]) (rest := [.int v2]) lkRX10_226 (ceX10_serves _ _ σ v3 v1 hz2) nLM_0 kLM_0 (by decide) rfl ⟨Nat.le_of_ble_eq_true rfl, Nat.le_of_ble_eq_true rfl⟩ rfl rfl (Nat.le_of_ble_eq_true rfl) dX10_fundsOf_24 rfl ?_
        refine r_if_eq (pc := 27) 39 dX10_fundsOf_27 (by decide) h (fun c3 h => ?_) (fun c3 h => ?_)
        · refine r_iconst (pc := 39) dX10_fundsOf_39 ci_0 ?_
          refine r_iadd (pc := 40) dX10_fundsOf_40 ?_
          refine g_bi h (fun x2 ex2 h => ?_)
          refine r_istore_n (pc := 41) (lv' := [(2, .int x2), (0, .ref (xa E 0)), (1, .int v1), (3, .int v3)]) dX10_fundsOf_41 rfl (Nat.le_of_ble_eq_true rfl) rfl ?_
          refine r_iinc (pc := 42) (v := v3 + 1) (lv' := [(3, .int (v3 + 1)), (2, .int x2), (0, .ref (xa E 0)), (1, .int v1)]) 3 dX10_fundsOf_42 rfl (by rw [ci_1]) (Nat.le_of_ble_eq_true rfl) rfl ?_
          refine r_goto (pc := 45) 4 dX10_fundsOf_45 (by decide) ?_
          refine r_sub [2, 3, 1, 0] rfl ?_
          exact ih v1 x2 (v3 + 1) h
        · refine r_aload_n (pc := 30) 0 dX10_fundsOf_30 rfl rfl ?_
          refine r_getR (pc := 31) (i := 0) (j := 16) fdRX10_56 nLM_0 kLM_0 (by decide) rfl dX10_fundsOf_31 ?_
          refine r_iload_n (pc := 34) 3 dX10_fundsOf_34 rfl rfl ?_
          refine inb_k h (fun b1 h => ?_)
          refine r_iald (pc := 35) (i := 16) (v3.toNatClampNeg) rfl nLM_16 kLM_16 lLM_16 b1 dX10_fundsOf_35 ?_
          refine r_goto (pc := 36) 40 dX10_fundsOf_36 (by decide) ?_
          refine r_iadd (pc := 40) dX10_fundsOf_40 ?_
          refine g_bi h (fun x3 ex3 h => ?_)
          refine r_istore_n (pc := 41) (lv' := [(2, .int x3), (0, .ref (xa E 0)), (1, .int v1), (3, .int v3)]) dX10_fundsOf_41 rfl (Nat.le_of_ble_eq_true rfl) rfl ?_
          refine r_iinc (pc := 42) (v := v3 + 1) (lv' := [(3, .int (v3 + 1)), (2, .int x3), (0, .ref (xa E 0)), (1, .int v1)]) 3 dX10_fundsOf_42 rfl (by rw [ci_1]) (Nat.le_of_ble_eq_true rfl) rfl ?_
          refine r_goto (pc := 45) 4 dX10_fundsOf_45 (by decide) ?_
          refine r_sub [2, 3, 1, 0] rfl ?_
          exact ih v1 x3 (v3 + 1) h
def fX10_fundsOf (σ : Mem) (v1 : Int32) : Option Int32 :=
  fX10_fundsOf_4 300 σ v1 0 0
set_option maxHeartbeats 4000000 in
set_option maxRecDepth 20000 in
theorem gX10_fundsOf (E : XE) {r : Int32} (σ : Mem) (v1 : Int32)  (h : fX10_fundsOf σ v1 = some r) : G E LM qX10_fundsOf σ 0 [(0, .ref (xa E 0)), (1, .int v1)] [] (some r, σ) := by
  unfold fX10_fundsOf at h
  refine r_iconst (pc := 0) dX10_fundsOf_0 ci_0 ?_
  refine r_istore_n (pc := 1) (lv' := [(2, .int 0), (0, .ref (xa E 0)), (1, .int v1)]) dX10_fundsOf_1 rfl (Nat.le_of_ble_eq_true rfl) rfl ?_
  refine r_iconst (pc := 2) dX10_fundsOf_2 ci_0 ?_
  refine r_istore_n (pc := 3) (lv' := [(3, .int 0), (2, .int 0), (0, .ref (xa E 0)), (1, .int v1)]) dX10_fundsOf_3 rfl (Nat.le_of_ble_eq_true rfl) rfl ?_
  refine r_sub [2, 3, 1, 0] rfl ?_
  exact gX10_fundsOf_4 E 300 σ v1 0 0 h
theorem ceX10_fundsOf (l : Launch) (d : SD) (σ : Mem) (v1 : Int32)  {r : Int32} (h : fX10_fundsOf σ v1 = some r) : Me l d LM yX10_fundsOf qX10_fundsOf σ [.ref (d.2.2.1 0), .int v1] (some r, σ) := me_of (avs := fun d => [.ref (d.2.2.1 0), .int v1]) (by decide) rfl (Nat.le_of_ble_eq_true rfl) (fun E => gX10_fundsOf E σ v1  h)
def fX10_funds (σ : Mem) (v1 : Int32) : Option Int32 :=
  if fX10_isEnd σ v1 = 0 then
    (some ((-1000000001)))
  else
    (bo (fX10_fundsOf σ v1) (fun z1 =>
    some (z1)))
set_option maxHeartbeats 4000000 in
set_option maxRecDepth 20000 in
theorem gX10_funds (E : XE) {r : Int32} (σ : Mem) (v1 : Int32)  (h : fX10_funds σ v1 = some r) : G E LM qX10_funds σ 0 [(0, .ref (xa E 0)), (1, .int v1)] [] (some r, σ) := by
  unfold fX10_funds at h
  refine r_aload_n (pc := 0) 0 dX10_funds_0 rfl rfl ?_
  refine r_iload_n (pc := 1) 1 dX10_funds_1 rfl rfl ?_
  refine r_callV (pc := 2) (i := 0) (As := [.int v1]) (rest := []) lkRX10_230 (ceX10_isEnd _ _ σ v1 rfl) nLM_0 kLM_0 (by decide) rfl ⟨Nat.le_of_ble_eq_true rfl, Nat.le_of_ble_eq_true rfl⟩ rfl rfl (Nat.le_of_ble_eq_true rfl) dX10_funds_2 rfl ?_
  refine r_if_eq (pc := 5) 16 dX10_funds_5 (by decide) h (fun c1 h => ?_) (fun c1 h => ?_)
  · refine r_ldc (pc := 16) w_894 dX10_funds_16 ?_
    exact r_iret (pc := 18) rfl dX10_funds_18 (Option.some.inj h) rfl
  · refine r_aload_n (pc := 8) 0 dX10_funds_8 rfl rfl ?_
    refine r_iload_n (pc := 9) 1 dX10_funds_9 rfl rfl ?_
    refine bo_k h (fun z1 hz1 h => ?_)
    refine r_callV (pc := 10) (i := 0) (As := [.int v1]) (rest := []) lkRX10_233 (ceX10_fundsOf _ _ σ v1 hz1) nLM_0 kLM_0 (by decide) rfl ⟨Nat.le_of_ble_eq_true rfl, Nat.le_of_ble_eq_true rfl⟩ rfl rfl (Nat.le_of_ble_eq_true rfl) dX10_funds_10 rfl ?_
    refine r_goto (pc := 13) 18 dX10_funds_13 (by decide) ?_
    exact r_iret (pc := 18) rfl dX10_funds_18 (Option.some.inj h) rfl
theorem ceX10_funds (l : Launch) (d : SD) (σ : Mem) (v1 : Int32)  {r : Int32} (h : fX10_funds σ v1 = some r) : Me l d LM yX10_funds qX10_funds σ [.ref (d.2.2.1 0), .int v1] (some r, σ) := me_of (avs := fun d => [.ref (d.2.2.1 0), .int v1]) (by decide) rfl (Nat.le_of_ble_eq_true rfl) (fun E => gX10_funds E σ v1  h)
def fX10_turnOf (σ : Mem) (v1 : Int32) : Option Int32 :=
  if inb v1 20 = true then
  (if σ 11 v1.toNatClampNeg < 4 then
    (if inb v1 20 = true then
    (if σ 11 v1.toNatClampNeg = 0 then
      (some (4))
    else
      (if inb v1 20 = true then
      (some (σ 11 v1.toNatClampNeg))
      else none))
    else none)
  else
    (some (0)))
  else none
set_option maxHeartbeats 4000000 in
set_option maxRecDepth 20000 in
theorem gX10_turnOf (E : XE) {r : Int32} (σ : Mem) (v1 : Int32)  (h : fX10_turnOf σ v1 = some r) : G E LM qX10_turnOf σ 0 [(0, .ref (xa E 0)), (1, .int v1)] [] (some r, σ) := by
  unfold fX10_turnOf at h
  refine r_aload_n (pc := 0) 0 dX10_turnOf_0 rfl rfl ?_
  refine r_getR (pc := 1) (i := 0) (j := 11) fdRX10_41 nLM_0 kLM_0 (by decide) rfl dX10_turnOf_1 ?_
  refine r_iload_n (pc := 4) 1 dX10_turnOf_4 rfl rfl ?_
  refine inb_k h (fun b1 h => ?_)
  refine r_iald (pc := 5) (i := 11) (v1.toNatClampNeg) rfl nLM_11 kLM_11 lLM_11 b1 dX10_turnOf_5 ?_
  refine r_iconst (pc := 6) dX10_turnOf_6 ci_4 ?_
  refine r_icmp_lt (pc := 7) 14 dX10_turnOf_7 (by decide) h (fun c1 h => ?_) (fun c1 h => ?_)
  · refine r_aload_n (pc := 14) 0 dX10_turnOf_14 rfl rfl ?_
    refine r_getR (pc := 15) (i := 0) (j := 11) fdRX10_41 nLM_0 kLM_0 (by decide) rfl dX10_turnOf_15 ?_
    refine r_iload_n (pc := 18) 1 dX10_turnOf_18 rfl rfl ?_
    refine inb_k h (fun b2 h => ?_)
    refine r_iald (pc := 19) (i := 11) (v1.toNatClampNeg) rfl nLM_11 kLM_11 lLM_11 b2 dX10_turnOf_19 ?_
    refine r_if_ne (pc := 20) 27 dX10_turnOf_20 (by decide) h (fun c2 h => ?_) (fun c2 h => ?_)
    · refine r_iconst (pc := 23) dX10_turnOf_23 ci_4 ?_
      refine r_goto (pc := 24) 33 dX10_turnOf_24 (by decide) ?_
      exact r_iret (pc := 33) rfl dX10_turnOf_33 (Option.some.inj h) rfl
    · refine r_aload_n (pc := 27) 0 dX10_turnOf_27 rfl rfl ?_
      refine r_getR (pc := 28) (i := 0) (j := 11) fdRX10_41 nLM_0 kLM_0 (by decide) rfl dX10_turnOf_28 ?_
      refine r_iload_n (pc := 31) 1 dX10_turnOf_31 rfl rfl ?_
      refine inb_k h (fun b3 h => ?_)
      refine r_iald (pc := 32) (i := 11) (v1.toNatClampNeg) rfl nLM_11 kLM_11 lLM_11 b3 dX10_turnOf_32 ?_
      exact r_iret (pc := 33) rfl dX10_turnOf_33 (Option.some.inj h) rfl
  · refine r_iconst (pc := 10) dX10_turnOf_10 ci_0 ?_
    refine r_goto (pc := 11) 33 dX10_turnOf_11 (by decide) ?_
    exact r_iret (pc := 33) rfl dX10_turnOf_33 (Option.some.inj h) rfl
theorem ceX10_turnOf (l : Launch) (d : SD) (σ : Mem) (v1 : Int32)  {r : Int32} (h : fX10_turnOf σ v1 = some r) : Me l d LM yX10_turnOf qX10_turnOf σ [.ref (d.2.2.1 0), .int v1] (some r, σ) := me_of (avs := fun d => [.ref (d.2.2.1 0), .int v1]) (by decide) rfl (Nat.le_of_ble_eq_true rfl) (fun E => gX10_turnOf E σ v1  h)
def fX10_isSooner (σ : Mem) (v1 : Int32) (v2 : Int32) : Option Int32 :=
  bo (fX10_turnOf σ v1) (fun z1 =>
  bo (fX10_turnOf σ v2) (fun z2 =>
  if z1 < z2 then
    (some (1))
  else
    (bo (fX10_turnOf σ v1) (fun z3 =>
    bo (fX10_turnOf σ v2) (fun z4 =>
    if z3 = z4 then
      (if inb v1 20 = true then
      (if inb v2 20 = true then
      (if σ 13 v2.toNatClampNeg ≤ σ 13 v1.toNatClampNeg then
        (some (0))
      else
        (some (1)))
      else none)
      else none)
    else
      (some (0)))))))
set_option maxHeartbeats 4000000 in
set_option maxRecDepth 20000 in
theorem gX10_isSooner (E : XE) {r : Int32} (σ : Mem) (v1 : Int32) (v2 : Int32)  (h : fX10_isSooner σ v1 v2 = some r) : G E LM qX10_isSooner σ 0 [(0, .ref (xa E 0)), (1, .int v1), (2, .int v2)] [] (some r, σ) := by
  unfold fX10_isSooner at h
  refine r_aload_n (pc := 0) 0 dX10_isSooner_0 rfl rfl ?_
  refine r_iload_n (pc := 1) 1 dX10_isSooner_1 rfl rfl ?_
  refine bo_k h (fun z1 hz1 h => ?_)
  refine r_callV (pc := 2) (i := 0) (As := [.int v1]) (rest := []) lkRX10_236 (ceX10_turnOf _ _ σ v1 hz1) nLM_0 kLM_0 (by decide) rfl ⟨Nat.le_of_ble_eq_true rfl, Nat.le_of_ble_eq_true rfl⟩ rfl rfl (Nat.le_of_ble_eq_true rfl) dX10_isSooner_2 rfl ?_
  refine r_aload_n (pc := 5) 0 dX10_isSooner_5 rfl rfl ?_
  refine r_iload_n (pc := 6) 2 dX10_isSooner_6 rfl rfl ?_
  refine bo_k h (fun z2 hz2 h => ?_)
  refine r_callV (pc := 7) (i := 0) (As := [.int v2]) (rest := [.int z1]) lkRX10_236 (ceX10_turnOf _ _ σ v2 hz2) nLM_0 kLM_0 (by decide) rfl ⟨Nat.le_of_ble_eq_true rfl, Nat.le_of_ble_eq_true rfl⟩ rfl rfl (Nat.le_of_ble_eq_true rfl) dX10_isSooner_7 rfl ?_
  refine r_icmp_lt (pc := 10) 41 dX10_isSooner_10 (by decide) h (fun c1 h => ?_) (fun c1 h => ?_)
  · refine r_iconst (pc := 41) dX10_isSooner_41 ci_1 ?_
    refine r_goto (pc := 42) 46 dX10_isSooner_42 (by decide) ?_
    exact r_zret (pc := 46) rfl rfl dX10_isSooner_46 (Option.some.inj h) rfl
  · refine r_aload_n (pc := 13) 0 dX10_isSooner_13 rfl rfl ?_
    refine r_iload_n (pc := 14) 1 dX10_isSooner_14 rfl rfl ?_
    refine bo_k h (fun z3 hz3 h => ?_)
    refine r_callV (pc := 15) (i := 0) (As := [.int v1]) (rest := []) lkRX10_236 (ceX10_turnOf _ _ σ v1 hz3) nLM_0 kLM_0 (by decide) rfl ⟨Nat.le_of_ble_eq_true rfl, Nat.le_of_ble_eq_true rfl⟩ rfl rfl (Nat.le_of_ble_eq_true rfl) dX10_isSooner_15 rfl ?_
    refine r_aload_n (pc := 18) 0 dX10_isSooner_18 rfl rfl ?_
    refine r_iload_n (pc := 19) 2 dX10_isSooner_19 rfl rfl ?_
    refine bo_k h (fun z4 hz4 h => ?_)
    refine r_callV (pc := 20) (i := 0) (As := [.int v2]) (rest := [.int z3]) lkRX10_236 (ceX10_turnOf _ _ σ v2 hz4) nLM_0 kLM_0 (by decide) rfl ⟨Nat.le_of_ble_eq_true rfl, Nat.le_of_ble_eq_true rfl⟩ rfl rfl (Nat.le_of_ble_eq_true rfl) dX10_isSooner_20 rfl ?_
    refine r_icmp_ne (pc := 23) 45 dX10_isSooner_23 (by decide) h (fun c2 h => ?_) (fun c2 h => ?_)
    · refine r_aload_n (pc := 26) 0 dX10_isSooner_26 rfl rfl ?_
      refine r_getR (pc := 27) (i := 0) (j := 13) fdRX10_47 nLM_0 kLM_0 (by decide) rfl dX10_isSooner_27 ?_
      refine r_iload_n (pc := 30) 1 dX10_isSooner_30 rfl rfl ?_
      refine inb_k h (fun b1 h => ?_)
      refine r_iald (pc := 31) (i := 13) (v1.toNatClampNeg) rfl nLM_13 kLM_13 lLM_13 b1 dX10_isSooner_31 ?_
      refine r_aload_n (pc := 32) 0 dX10_isSooner_32 rfl rfl ?_
      refine r_getR (pc := 33) (i := 0) (j := 13) fdRX10_47 nLM_0 kLM_0 (by decide) rfl dX10_isSooner_33 ?_
      refine r_iload_n (pc := 36) 2 dX10_isSooner_36 rfl rfl ?_
      refine inb_k h (fun b2 h => ?_)
      refine r_iald (pc := 37) (i := 13) (v2.toNatClampNeg) rfl nLM_13 kLM_13 lLM_13 b2 dX10_isSooner_37 ?_
      refine r_icmp_ge (pc := 38) 45 dX10_isSooner_38 (by decide) h (fun c3 h => ?_) (fun c3 h => ?_)
      · refine r_iconst (pc := 45) dX10_isSooner_45 ci_0 ?_
        exact r_zret (pc := 46) rfl rfl dX10_isSooner_46 (Option.some.inj h) rfl
      · refine r_iconst (pc := 41) dX10_isSooner_41 ci_1 ?_
        refine r_goto (pc := 42) 46 dX10_isSooner_42 (by decide) ?_
        exact r_zret (pc := 46) rfl rfl dX10_isSooner_46 (Option.some.inj h) rfl
    · refine r_iconst (pc := 45) dX10_isSooner_45 ci_0 ?_
      exact r_zret (pc := 46) rfl rfl dX10_isSooner_46 (Option.some.inj h) rfl
theorem ceX10_isSooner (l : Launch) (d : SD) (σ : Mem) (v1 : Int32) (v2 : Int32)  {r : Int32} (h : fX10_isSooner σ v1 v2 = some r) : Me l d LM yX10_isSooner qX10_isSooner σ [.ref (d.2.2.1 0), .int v1, .int v2] (some r, σ) := me_of (avs := fun d => [.ref (d.2.2.1 0), .int v1, .int v2]) (by decide) rfl (Nat.le_of_ble_eq_true rfl) (fun E => gX10_isSooner E σ v1 v2  h)
def fX10_write_34  (σ : Mem) (v1 : Int32) (v2 : Int32) (v3 : Int32) : Option Mem :=
  bi (4 * (((σ 0 24) + (σ 0 25)) - ((σ 0 24) + (σ 0 25)) / 200 * 200)) (fun x1 =>
  if inb x1 800 = true then
  (bm (mset σ 20 x1.toNatClampNeg (σ 0 0)) (fun m1 =>
  if inb (x1 + 1) 800 = true then
  (bm (mset m1 20 ((x1 + 1).toNatClampNeg) v1) (fun m2 =>
  if inb (x1 + 2) 800 = true then
  (bm (mset m2 20 ((x1 + 2).toNatClampNeg) v2) (fun m3 =>
  if inb (x1 + 3) 800 = true then
  (bm (mset m3 20 ((x1 + 3).toNatClampNeg) v3) (fun m4 =>
  bm (mset m4 0 25 ((m4 0 25) + 1)) (fun m5 =>
  some m5)))
  else none))
  else none))
  else none))
  else none)
set_option maxHeartbeats 4000000 in
set_option maxRecDepth 20000 in
theorem gX10_write_34 (E : XE)  {r : Mem}  (σ : Mem) (v1 : Int32) (v2 : Int32) (v3 : Int32)  (h : fX10_write_34 σ v1 v2 v3 = some r) : G E LM qX10_write σ 34 [(0, .ref (xa E 0)), (1, .int v1), (2, .int v2), (3, .int v3)] [] (none, r) := by
  unfold fX10_write_34 at h
  refine r_iconst (pc := 34) dX10_write_34 ci_4 ?_
  refine r_aload_n (pc := 35) 0 dX10_write_35 rfl rfl ?_
  refine r_getI (pc := 36) (i := 0) fdRX10_242 nLM_0 kLM_0 (by decide) dX10_write_36 ?_
  refine r_aload_n (pc := 39) 0 dX10_write_39 rfl rfl ?_
  refine r_getI (pc := 40) (i := 0) fdRX10_239 nLM_0 kLM_0 (by decide) dX10_write_40 ?_
  refine r_iadd (pc := 43) dX10_write_43 ?_
  refine r_sipush (pc := 44) dX10_write_44 cs_200 ?_
  refine r_irem (pc := 47) dX10_write_47 (by decide) ?_
  refine r_imul (pc := 48) dX10_write_48 ?_
  refine g_bi h (fun x1 ex1 h => ?_)
  refine r_istore (pc := 49) (lv' := [(4, .int x1), (0, .ref (xa E 0)), (1, .int v1), (2, .int v2), (3, .int v3)]) dX10_write_49 (Nat.le_of_ble_eq_true rfl) rfl ?_
  refine r_aload_n (pc := 51) 1 dX10_write_51 rfl rfl ?_
  refine r_getR (pc := 52) (i := 0) (j := 20) fdRX10_68 nLM_0 kLM_0 (by decide) rfl dX10_write_52 ?_
  refine r_iload (pc := 55) 0 dX10_write_55 rfl ?_
  refine r_aload_n (pc := 57) 1 dX10_write_57 rfl rfl ?_
  refine r_getI (pc := 58) (i := 0) fdRX10_103 nLM_0 kLM_0 (by decide) dX10_write_58 ?_
  refine inb_k h (fun b1 h => ?_)
  refine r_iast (pc := 61) (i := 20) (x1.toNatClampNeg) (σ 0 0) rfl rfl nLM_20 kLM_20 lLM_20 b1 dX10_write_61 ?_
  refine g_bm h (fun m1 em1 h => ?_)
  refine r_aload_n (pc := 62) 1 dX10_write_62 rfl rfl ?_
  refine r_getR (pc := 63) (i := 0) (j := 20) fdRX10_68 nLM_0 kLM_0 (by decide) rfl dX10_write_63 ?_
  refine r_iload (pc := 66) 0 dX10_write_66 rfl ?_
  refine r_iconst (pc := 68) dX10_write_68 ci_1 ?_
  refine r_iadd (pc := 69) dX10_write_69 ?_
  refine r_iload_n (pc := 70) 2 dX10_write_70 rfl rfl ?_
  refine inb_k h (fun b2 h => ?_)
  refine r_iast (pc := 71) (i := 20) ((x1 + 1).toNatClampNeg) (v1) rfl rfl nLM_20 kLM_20 lLM_20 b2 dX10_write_71 ?_
  refine g_bm h (fun m2 em2 h => ?_)
  refine r_aload_n (pc := 72) 1 dX10_write_72 rfl rfl ?_
  refine r_getR (pc := 73) (i := 0) (j := 20) fdRX10_68 nLM_0 kLM_0 (by decide) rfl dX10_write_73 ?_
  refine r_iload (pc := 76) 0 dX10_write_76 rfl ?_
  refine r_iconst (pc := 78) dX10_write_78 ci_2 ?_
  refine r_iadd (pc := 79) dX10_write_79 ?_
  refine r_iload_n (pc := 80) 3 dX10_write_80 rfl rfl ?_
  refine inb_k h (fun b3 h => ?_)
  refine r_iast (pc := 81) (i := 20) ((x1 + 2).toNatClampNeg) (v2) rfl rfl nLM_20 kLM_20 lLM_20 b3 dX10_write_81 ?_
  refine g_bm h (fun m3 em3 h => ?_)
  refine r_aload_n (pc := 82) 1 dX10_write_82 rfl rfl ?_
  refine r_getR (pc := 83) (i := 0) (j := 20) fdRX10_68 nLM_0 kLM_0 (by decide) rfl dX10_write_83 ?_
  refine r_iload (pc := 86) 0 dX10_write_86 rfl ?_
  refine r_iconst (pc := 88) dX10_write_88 ci_3 ?_
  refine r_iadd (pc := 89) dX10_write_89 ?_
  refine r_iload_n (pc := 90) 4 dX10_write_90 rfl rfl ?_
  refine inb_k h (fun b4 h => ?_)
  refine r_iast (pc := 91) (i := 20) ((x1 + 3).toNatClampNeg) (v3) rfl rfl nLM_20 kLM_20 lLM_20 b4 dX10_write_91 ?_
  refine g_bm h (fun m4 em4 h => ?_)
  refine r_aload_n (pc := 92) 1 dX10_write_92 rfl rfl ?_
  refine r_dup (pc := 93) dX10_write_93 rfl ?_
  refine r_getI (pc := 94) (i := 0) fdRX10_239 nLM_0 kLM_0 (by decide) dX10_write_94 ?_
  refine r_iconst (pc := 97) dX10_write_97 ci_1 ?_
  refine r_iadd (pc := 98) dX10_write_98 ?_
  refine r_putI (pc := 99) (i := 0) fpRX10_239 nLM_0 kLM_0 (by decide) rfl rfl dX10_write_99 ?_
  refine g_bm h (fun m5 em5 h => ?_)
  exact r_vret (pc := 102) rfl dX10_write_102 (Option.some.inj h)
def fX10_write (σ : Mem) (v1 : Int32) (v2 : Int32) (v3 : Int32) : Option Mem :=
  if σ 0 25 = 200 then
    (bm (mset σ 0 24 (((σ 0 24) + 1) - ((σ 0 24) + 1) / 200 * 200)) (fun m1 =>
    bm (mset m1 0 25 ((m1 0 25) - 1)) (fun m2 =>
    fX10_write_34 m2 v1 v2 v3)))
  else
    (fX10_write_34 σ v1 v2 v3)
set_option maxHeartbeats 4000000 in
set_option maxRecDepth 20000 in
theorem gX10_write (E : XE) {r : Mem} (σ : Mem) (v1 : Int32) (v2 : Int32) (v3 : Int32)  (h : fX10_write σ v1 v2 v3 = some r) : G E LM qX10_write σ 0 [(0, .ref (xa E 0)), (1, .int v1), (2, .int v2), (3, .int v3)] [] (none, r) := by
  unfold fX10_write at h
  refine r_aload_n (pc := 0) 0 dX10_write_0 rfl rfl ?_
  refine r_getI (pc := 1) (i := 0) fdRX10_239 nLM_0 kLM_0 (by decide) dX10_write_1 ?_
  refine r_sipush (pc := 4) dX10_write_4 cs_200 ?_
  refine r_icmp_ne (pc := 7) 34 dX10_write_7 (by decide) h (fun c1 h => ?_) (fun c1 h => ?_)
  · refine r_aload_n (pc := 10) 0 dX10_write_10 rfl rfl ?_
    refine r_aload_n (pc := 11) 0 dX10_write_11 rfl rfl ?_
    refine r_getI (pc := 12) (i := 0) fdRX10_242 nLM_0 kLM_0 (by decide) dX10_write_12 ?_
    refine r_iconst (pc := 15) dX10_write_15 ci_1 ?_
    refine r_iadd (pc := 16) dX10_write_16 ?_
    refine r_sipush (pc := 17) dX10_write_17 cs_200 ?_
    refine r_irem (pc := 20) dX10_write_20 (by decide) ?_
    refine r_putI (pc := 21) (i := 0) fpRX10_242 nLM_0 kLM_0 (by decide) rfl rfl dX10_write_21 ?_
    refine g_bm h (fun m1 em1 h => ?_)
    refine r_aload_n (pc := 24) 0 dX10_write_24 rfl rfl ?_
    refine r_dup (pc := 25) dX10_write_25 rfl ?_
    refine r_getI (pc := 26) (i := 0) fdRX10_239 nLM_0 kLM_0 (by decide) dX10_write_26 ?_
    refine r_iconst (pc := 29) dX10_write_29 ci_1 ?_
    refine r_isub (pc := 30) dX10_write_30 ?_
    refine r_putI (pc := 31) (i := 0) fpRX10_239 nLM_0 kLM_0 (by decide) rfl rfl dX10_write_31 ?_
    refine g_bm h (fun m2 em2 h => ?_)
    exact gX10_write_34 E m2 v1 v2 v3 h
  · exact gX10_write_34 E σ v1 v2 v3 h
theorem ceX10_write (l : Launch) (d : SD) (σ : Mem) (v1 : Int32) (v2 : Int32) (v3 : Int32)  {r : Mem} (h : fX10_write σ v1 v2 v3 = some r) : Me l d LM yX10_write qX10_write σ [.ref (d.2.2.1 0), .int v1, .int v2, .int v3] (none, r) := me_of (avs := fun d => [.ref (d.2.2.1 0), .int v1, .int v2, .int v3]) (by decide) rfl (Nat.le_of_ble_eq_true rfl) (fun E => gX10_write E σ v1 v2 v3  h)
def fX10_taken_98 (c2 : Mem → Int32 → Int32 → Int32 → Option Mem) (σ : Mem) (v1 : Int32) (v2 : Int32) (v3 : Int32) (v4 : Int32) (t0 : Int32) : Option Mem :=
  if inb v4 20 = true then
  (if inb v4 20 = true then
  (bm (mset σ 16 v4.toNatClampNeg ((σ 16 v4.toNatClampNeg) - t0)) (fun m1 =>
  if inb ((12 * v4) + v1) 240 = true then
  (if inb ((12 * v4) + v1) 240 = true then
  (bm (mset m1 19 (((12 * v4) + v1).toNatClampNeg) ((m1 19 (((12 * v4) + v1).toNatClampNeg)) + t0)) (fun m2 =>
  bo (fX10_write m2 v4 v1 t0) (fun z1 =>
  bi (v3 - t0) (fun x1 =>
  c2 z1 v1 v2 x1))))
  else none)
  else none))
  else none)
  else none
set_option maxHeartbeats 4000000 in
set_option maxRecDepth 20000 in
theorem gX10_taken_98 (E : XE) (c2 : Mem → Int32 → Int32 → Int32 → Option Mem) {r : Mem} (hc2 : ∀ (σ : Mem) (v1 : Int32) (v2 : Int32) (v3 : Int32), c2 σ v1 v2 v3 = some r → G E LM qX10_taken σ 2 [(0, .ref (xa E 0)), (1, .int v1), (2, .int v2), (3, .int v3)] [] (none, r)) (σ : Mem) (v1 : Int32) (v2 : Int32) (v3 : Int32) (v4 : Int32) (t0 : Int32)  (h : fX10_taken_98 c2 σ v1 v2 v3 v4 t0 = some r) : G E LM qX10_taken σ 98 [(0, .ref (xa E 0)), (1, .int v1), (2, .int v2), (3, .int v3), (4, .int v4)] [.int t0] (none, r) := by
  unfold fX10_taken_98 at h
  refine r_istore (pc := 98) (lv' := [(5, .int t0), (0, .ref (xa E 0)), (1, .int v1), (2, .int v2), (3, .int v3), (4, .int v4)]) dX10_taken_98 (Nat.le_of_ble_eq_true rfl) rfl ?_
  refine r_aload_n (pc := 100) 1 dX10_taken_100 rfl rfl ?_
  refine r_getR (pc := 101) (i := 0) (j := 16) fdRX10_56 nLM_0 kLM_0 (by decide) rfl dX10_taken_101 ?_
  refine r_iload (pc := 104) 5 dX10_taken_104 rfl ?_
  refine r_dup2 (pc := 106) dX10_taken_106 rfl rfl ?_
  refine inb_k h (fun b1 h => ?_)
  refine r_iald (pc := 107) (i := 16) (v4.toNatClampNeg) rfl nLM_16 kLM_16 lLM_16 b1 dX10_taken_107 ?_
  refine r_iload (pc := 108) 0 dX10_taken_108 rfl ?_
  refine r_isub (pc := 110) dX10_taken_110 ?_
  refine inb_k h (fun b2 h => ?_)
  refine r_iast (pc := 111) (i := 16) (v4.toNatClampNeg) ((σ 16 v4.toNatClampNeg) - t0) rfl rfl nLM_16 kLM_16 lLM_16 b2 dX10_taken_111 ?_
  refine g_bm h (fun m1 em1 h => ?_)
  refine r_aload_n (pc := 112) 1 dX10_taken_112 rfl rfl ?_
  refine r_getR (pc := 113) (i := 0) (j := 19) fdRX10_65 nLM_0 kLM_0 (by decide) rfl dX10_taken_113 ?_
  refine r_bipush (pc := 116) dX10_taken_116 cb_12 ?_
  refine r_iload (pc := 118) 5 dX10_taken_118 rfl ?_
  refine r_imul (pc := 120) dX10_taken_120 ?_
  refine r_iload_n (pc := 121) 2 dX10_taken_121 rfl rfl ?_
  refine r_iadd (pc := 122) dX10_taken_122 ?_
  refine r_dup2 (pc := 123) dX10_taken_123 rfl rfl ?_
  refine inb_k h (fun b3 h => ?_)
  refine r_iald (pc := 124) (i := 19) (((12 * v4) + v1).toNatClampNeg) rfl nLM_19 kLM_19 lLM_19 b3 dX10_taken_124 ?_
  refine r_iload (pc := 125) 0 dX10_taken_125 rfl ?_
  refine r_iadd (pc := 127) dX10_taken_127 ?_
  refine inb_k h (fun b4 h => ?_)
  refine r_iast (pc := 128) (i := 19) (((12 * v4) + v1).toNatClampNeg) ((m1 19 (((12 * v4) + v1).toNatClampNeg)) + t0) rfl rfl nLM_19 kLM_19 lLM_19 b4 dX10_taken_128 ?_
  refine g_bm h (fun m2 em2 h => ?_)
  refine r_aload_n (pc := 129) 1 dX10_taken_129 rfl rfl ?_
  refine r_iload (pc := 130) 5 dX10_taken_130 rfl ?_
  refine r_iload_n (pc := 132) 2 dX10_taken_132 rfl rfl ?_
  refine r_iload (pc := 133) 0 dX10_taken_133 rfl ?_
  refine bo_k h (fun z1 hz1 h => ?_)
  refine r_callV (pc := 135) (i := 0) (As := [.int v4, .int v1, .int t0]) (rest := []) lkRX10_248 (ceX10_write _ _ m2 v4 v1 t0 hz1) nLM_0 kLM_0 (by decide) rfl ⟨Nat.le_of_ble_eq_true rfl, Nat.le_of_ble_eq_true rfl⟩ rfl rfl (Nat.le_of_ble_eq_true rfl) dX10_taken_135 rfl ?_
  refine r_iload_n (pc := 138) 4 dX10_taken_138 rfl rfl ?_
  refine r_iload (pc := 139) 0 dX10_taken_139 rfl ?_
  refine r_isub (pc := 141) dX10_taken_141 ?_
  refine g_bi h (fun x1 ex1 h => ?_)
  refine r_istore_n (pc := 142) (lv' := [(3, .int x1), (5, .int t0), (0, .ref (xa E 0)), (1, .int v1), (2, .int v2), (4, .int v4)]) dX10_taken_142 rfl (Nat.le_of_ble_eq_true rfl) rfl ?_
  refine r_goto (pc := 143) 2 dX10_taken_143 (by decide) ?_
  refine r_sub [2, 3, 4, 0] rfl ?_
  exact hc2 z1 v1 v2 x1 h
def fX10_taken_76 (c2 : Mem → Int32 → Int32 → Int32 → Option Mem) (σ : Mem) (v1 : Int32) (v2 : Int32) (v3 : Int32) (v4 : Int32) : Option Mem :=
  if inb v4 20 = true then
  (if v3 ≤ σ 16 v4.toNatClampNeg then
    (fX10_taken_98 c2 σ v1 v2 v3 v4 v3)
  else
    (if inb v4 20 = true then
    (fX10_taken_98 c2 σ v1 v2 v3 v4 (σ 16 v4.toNatClampNeg))
    else none))
  else none
set_option maxHeartbeats 4000000 in
set_option maxRecDepth 20000 in
theorem gX10_taken_76 (E : XE) (c2 : Mem → Int32 → Int32 → Int32 → Option Mem) {r : Mem} (hc2 : ∀ (σ : Mem) (v1 : Int32) (v2 : Int32) (v3 : Int32), c2 σ v1 v2 v3 = some r → G E LM qX10_taken σ 2 [(0, .ref (xa E 0)), (1, .int v1), (2, .int v2), (3, .int v3)] [] (none, r)) (σ : Mem) (v1 : Int32) (v2 : Int32) (v3 : Int32) (v4 : Int32)  (h : fX10_taken_76 c2 σ v1 v2 v3 v4 = some r) : G E LM qX10_taken σ 76 [(0, .ref (xa E 0)), (1, .int v1), (2, .int v2), (3, .int v3), (4, .int v4)] [] (none, r) := by
  unfold fX10_taken_76 at h
  refine r_aload_n (pc := 76) 0 dX10_taken_76 rfl rfl ?_
  refine r_getR (pc := 77) (i := 0) (j := 16) fdRX10_56 nLM_0 kLM_0 (by decide) rfl dX10_taken_77 ?_
  refine r_iload (pc := 80) 4 dX10_taken_80 rfl ?_
  refine inb_k h (fun b1 h => ?_)
  refine r_iald (pc := 82) (i := 16) (v4.toNatClampNeg) rfl nLM_16 kLM_16 lLM_16 b1 dX10_taken_82 ?_
  refine r_iload_n (pc := 83) 3 dX10_taken_83 rfl rfl ?_
  refine r_icmp_ge (pc := 84) 97 dX10_taken_84 (by decide) h (fun c1 h => ?_) (fun c1 h => ?_)
  · refine r_iload_n (pc := 97) 3 dX10_taken_97 rfl rfl ?_
    exact gX10_taken_98 E c2 hc2 σ v1 v2 v3 v4 v3 h
  · refine r_aload_n (pc := 87) 0 dX10_taken_87 rfl rfl ?_
    refine r_getR (pc := 88) (i := 0) (j := 16) fdRX10_56 nLM_0 kLM_0 (by decide) rfl dX10_taken_88 ?_
    refine r_iload (pc := 91) 4 dX10_taken_91 rfl ?_
    refine inb_k h (fun b2 h => ?_)
    refine r_iald (pc := 93) (i := 16) (v4.toNatClampNeg) rfl nLM_16 kLM_16 lLM_16 b2 dX10_taken_93 ?_
    refine r_goto (pc := 94) 98 dX10_taken_94 (by decide) ?_
    exact gX10_taken_98 E c2 hc2 σ v1 v2 v3 v4 (σ 16 v4.toNatClampNeg) h
def fX10_taken_12 (c2 : Mem → Int32 → Int32 → Int32 → Option Mem) : Nat → Mem → Int32 → Int32 → Int32 → Int32 → Int32 → Option Mem
  | 0, _, _, _, _, _, _ => none
  | n + 1, σ, v1, v2, v3, v4, v5 =>
    if σ 0 13 ≤ v5 then
      (fX10_taken_76 c2 σ v1 v2 v3 v4)
    else
      (bo (fX10_isOpen σ v5) (fun z1 =>
      if z1 = 0 then
        (fX10_taken_12 c2 n σ v1 v2 v3 v4 (v5 + 1))
      else
        (bo (fX10_serves σ v5 v1) (fun z2 =>
        if z2 = 0 then
          (fX10_taken_12 c2 n σ v1 v2 v3 v4 (v5 + 1))
        else
          (if inb v5 20 = true then
          (if σ 16 v5.toNatClampNeg ≤ 0 then
            (fX10_taken_12 c2 n σ v1 v2 v3 v4 (v5 + 1))
          else
            (if v4 < 0 then
              (fX10_taken_12 c2 n σ v1 v2 v3 v5 (v5 + 1))
            else
              (bo (fX10_isSooner σ v5 v4) (fun z3 =>
              if z3 = 0 then
                (fX10_taken_12 c2 n σ v1 v2 v3 v4 (v5 + 1))
              else
                (fX10_taken_12 c2 n σ v1 v2 v3 v5 (v5 + 1))))))
          else none)))))
set_option maxHeartbeats 4000000 in
set_option maxRecDepth 20000 in
theorem gX10_taken_12 (E : XE) (c2 : Mem → Int32 → Int32 → Int32 → Option Mem) {r : Mem} (hc2 : ∀ (σ : Mem) (v1 : Int32) (v2 : Int32) (v3 : Int32), c2 σ v1 v2 v3 = some r → G E LM qX10_taken σ 2 [(0, .ref (xa E 0)), (1, .int v1), (2, .int v2), (3, .int v3)] [] (none, r)) : ∀ (n : Nat) (σ : Mem) (v1 : Int32) (v2 : Int32) (v3 : Int32) (v4 : Int32) (v5 : Int32), fX10_taken_12 c2 n σ v1 v2 v3 v4 v5 = some r → G E LM qX10_taken σ 12 [(0, .ref (xa E 0)), (1, .int v1), (2, .int v2), (3, .int v3), (4, .int v4), (5, .int v5)] [] (none, r) := by
  intro n
  induction n with
  | zero => intro σ v1 v2 v3 v4 v5 h; cases h
  | succ n ih =>
    intro σ v1 v2 v3 v4 v5 h
    unfold fX10_taken_12 at h
    refine r_iload (pc := 12) 5 dX10_taken_12 rfl ?_
    refine r_aload_n (pc := 14) 0 dX10_taken_14 rfl rfl ?_
    refine r_getI (pc := 15) (i := 0) fdRX10_92 nLM_0 kLM_0 (by decide) dX10_taken_15 ?_
    refine r_icmp_ge (pc := 18) 76 dX10_taken_18 (by decide) h (fun c1 h => ?_) (fun c1 h => ?_)
    · refine r_sub [0, 1, 2, 3, 4] rfl ?_
      exact gX10_taken_76 E c2 hc2 σ v1 v2 v3 v4 h
    · refine r_aload_n (pc := 21) 0 dX10_taken_21 rfl rfl ?_
      refine r_iload (pc := 22) 5 dX10_taken_22 rfl ?_
      refine bo_k h (fun z1 hz1 h => ?_)
      refine r_callV (pc := 24) (i := 0) (As := [.int v5]) (rest := []) lkRX10_223 (ceX10_isOpen _ _ σ v5 hz1) nLM_0 kLM_0 (by decide) rfl ⟨Nat.le_of_ble_eq_true rfl, Nat.le_of_ble_eq_true rfl⟩ rfl rfl (Nat.le_of_ble_eq_true rfl) dX10_taken_24 rfl ?_
      refine r_if_eq (pc := 27) 70 dX10_taken_27 (by decide) h (fun c2 h => ?_) (fun c2 h => ?_)
      · refine r_iinc (pc := 70) (v := v5 + 1) (lv' := [(5, .int (v5 + 1)), (0, .ref (xa E 0)), (1, .int v1), (2, .int v2), (3, .int v3), (4, .int v4)]) 5 dX10_taken_70 rfl (by rw [ci_1]) (Nat.le_of_ble_eq_true rfl) rfl ?_
        refine r_goto (pc := 73) 12 dX10_taken_73 (by decide) ?_
        refine r_sub [1, 2, 3, 4, 5, 0] rfl ?_
        exact ih σ v1 v2 v3 v4 (v5 + 1) h
      · refine r_aload_n (pc := 30) 0 dX10_taken_30 rfl rfl ?_
        refine r_iload (pc := 31) 5 dX10_taken_31 rfl ?_
        refine r_iload_n (pc := 33) 1 dX10_taken_33 rfl rfl ?_
        refine bo_k h (fun z2 hz2 h => ?_)
        refine r_callV (pc := 34) (i := 0) (As := [.int v5, .int v1]) (rest := []) lkRX10_226 (ceX10_serves _ _ σ v5 v1 hz2) nLM_0 kLM_0 (by decide) rfl ⟨Nat.le_of_ble_eq_true rfl, Nat.le_of_ble_eq_true rfl⟩ rfl rfl (Nat.le_of_ble_eq_true rfl) dX10_taken_34 rfl ?_
        refine r_if_eq (pc := 37) 70 dX10_taken_37 (by decide) h (fun c3 h => ?_) (fun c3 h => ?_)
        · refine r_iinc (pc := 70) (v := v5 + 1) (lv' := [(5, .int (v5 + 1)), (0, .ref (xa E 0)), (1, .int v1), (2, .int v2), (3, .int v3), (4, .int v4)]) 5 dX10_taken_70 rfl (by rw [ci_1]) (Nat.le_of_ble_eq_true rfl) rfl ?_
          refine r_goto (pc := 73) 12 dX10_taken_73 (by decide) ?_
          refine r_sub [1, 2, 3, 4, 5, 0] rfl ?_
          exact ih σ v1 v2 v3 v4 (v5 + 1) h
        · refine r_aload_n (pc := 40) 0 dX10_taken_40 rfl rfl ?_
          refine r_getR (pc := 41) (i := 0) (j := 16) fdRX10_56 nLM_0 kLM_0 (by decide) rfl dX10_taken_41 ?_
          refine r_iload (pc := 44) 5 dX10_taken_44 rfl ?_
          refine inb_k h (fun b1 h => ?_)
          refine r_iald (pc := 46) (i := 16) (v5.toNatClampNeg) rfl nLM_16 kLM_16 lLM_16 b1 dX10_taken_46 ?_
          refine r_if_le (pc := 47) 70 dX10_taken_47 (by decide) h (fun c4 h => ?_) (fun c4 h => ?_)
          · refine r_iinc (pc := 70) (v := v5 + 1) (lv' := [(5, .int (v5 + 1)), (0, .ref (xa E 0)), (1, .int v1), (2, .int v2), (3, .int v3), (4, .int v4)]) 5 dX10_taken_70 rfl (by rw [ci_1]) (Nat.le_of_ble_eq_true rfl) rfl ?_
            refine r_goto (pc := 73) 12 dX10_taken_73 (by decide) ?_
            refine r_sub [1, 2, 3, 4, 5, 0] rfl ?_
            exact ih σ v1 v2 v3 v4 (v5 + 1) h
          · refine r_iload (pc := 50) 4 dX10_taken_50 rfl ?_
            refine r_if_lt (pc := 52) 66 dX10_taken_52 (by decide) h (fun c5 h => ?_) (fun c5 h => ?_)
            · refine r_iload (pc := 66) 5 dX10_taken_66 rfl ?_
              refine r_istore (pc := 68) (lv' := [(4, .int v5), (0, .ref (xa E 0)), (1, .int v1), (2, .int v2), (3, .int v3), (5, .int v5)]) dX10_taken_68 (Nat.le_of_ble_eq_true rfl) rfl ?_
              refine r_iinc (pc := 70) (v := v5 + 1) (lv' := [(5, .int (v5 + 1)), (4, .int v5), (0, .ref (xa E 0)), (1, .int v1), (2, .int v2), (3, .int v3)]) 5 dX10_taken_70 rfl (by rw [ci_1]) (Nat.le_of_ble_eq_true rfl) rfl ?_
              refine r_goto (pc := 73) 12 dX10_taken_73 (by decide) ?_
              refine r_sub [2, 3, 4, 5, 1, 0] rfl ?_
              exact ih σ v1 v2 v3 v5 (v5 + 1) h
            · refine r_aload_n (pc := 55) 0 dX10_taken_55 rfl rfl ?_
              refine r_iload (pc := 56) 5 dX10_taken_56 rfl ?_
              refine r_iload (pc := 58) 4 dX10_taken_58 rfl ?_
              refine bo_k h (fun z3 hz3 h => ?_)
              refine r_callV (pc := 60) (i := 0) (As := [.int v5, .int v4]) (rest := []) lkRX10_245 (ceX10_isSooner _ _ σ v5 v4 hz3) nLM_0 kLM_0 (by decide) rfl ⟨Nat.le_of_ble_eq_true rfl, Nat.le_of_ble_eq_true rfl⟩ rfl rfl (Nat.le_of_ble_eq_true rfl) dX10_taken_60 rfl ?_
              refine r_if_eq (pc := 63) 70 dX10_taken_63 (by decide) h (fun c6 h => ?_) (fun c6 h => ?_)
              · refine r_iinc (pc := 70) (v := v5 + 1) (lv' := [(5, .int (v5 + 1)), (0, .ref (xa E 0)), (1, .int v1), (2, .int v2), (3, .int v3), (4, .int v4)]) 5 dX10_taken_70 rfl (by rw [ci_1]) (Nat.le_of_ble_eq_true rfl) rfl ?_
                refine r_goto (pc := 73) 12 dX10_taken_73 (by decide) ?_
                refine r_sub [1, 2, 3, 4, 5, 0] rfl ?_
                exact ih σ v1 v2 v3 v4 (v5 + 1) h
              · refine r_iload (pc := 66) 5 dX10_taken_66 rfl ?_
                refine r_istore (pc := 68) (lv' := [(4, .int v5), (0, .ref (xa E 0)), (1, .int v1), (2, .int v2), (3, .int v3), (5, .int v5)]) dX10_taken_68 (Nat.le_of_ble_eq_true rfl) rfl ?_
                refine r_iinc (pc := 70) (v := v5 + 1) (lv' := [(5, .int (v5 + 1)), (4, .int v5), (0, .ref (xa E 0)), (1, .int v1), (2, .int v2), (3, .int v3)]) 5 dX10_taken_70 rfl (by rw [ci_1]) (Nat.le_of_ble_eq_true rfl) rfl ?_
                refine r_goto (pc := 73) 12 dX10_taken_73 (by decide) ?_
                refine r_sub [2, 3, 4, 5, 1, 0] rfl ?_
                exact ih σ v1 v2 v3 v5 (v5 + 1) h
def fX10_taken_159  (σ : Mem) (v2 : Int32) (t1 : Int32) : Option Mem :=
  bo (fX10_told σ t1 v2) (fun z1 =>
  some z1)
set_option maxHeartbeats 4000000 in
set_option maxRecDepth 20000 in
theorem gX10_taken_159 (E : XE)  {r : Mem}  (σ : Mem) (v2 : Int32) (t1 : Int32)  (h : fX10_taken_159 σ v2 t1 = some r) : G E LM qX10_taken σ 159 [(2, .int v2)] [.int t1, .ref (xa E 0)] (none, r) := by
  unfold fX10_taken_159 at h
  refine r_iload_n (pc := 159) 0 dX10_taken_159 rfl rfl ?_
  refine bo_k h (fun z1 hz1 h => ?_)
  refine r_callV (pc := 160) (i := 0) (As := [.int t1, .int v2]) (rest := []) lkRX10_209 (ceX10_told _ _ σ t1 v2 hz1) nLM_0 kLM_0 (by decide) rfl ⟨Nat.le_of_ble_eq_true rfl, Nat.le_of_ble_eq_true rfl⟩ rfl rfl (Nat.le_of_ble_eq_true rfl) dX10_taken_160 rfl ?_
  exact r_vret (pc := 163) rfl dX10_taken_163 (Option.some.inj h)
def fX10_taken_146  (σ : Mem) (v1 : Int32) (v2 : Int32) : Option Mem :=
  if 2 ≤ v1 then
    (fX10_taken_159 σ v2 5)
  else
    (fX10_taken_159 σ v2 (3 + v1))
set_option maxHeartbeats 4000000 in
set_option maxRecDepth 20000 in
theorem gX10_taken_146 (E : XE)  {r : Mem}  (σ : Mem) (v1 : Int32) (v2 : Int32)  (h : fX10_taken_146 σ v1 v2 = some r) : G E LM qX10_taken σ 146 [(0, .ref (xa E 0)), (1, .int v1), (2, .int v2)] [] (none, r) := by
  unfold fX10_taken_146 at h
  refine r_aload_n (pc := 146) 0 dX10_taken_146 rfl rfl ?_
  refine r_iload_n (pc := 147) 1 dX10_taken_147 rfl rfl ?_
  refine r_iconst (pc := 148) dX10_taken_148 ci_2 ?_
  refine r_icmp_ge (pc := 149) 158 dX10_taken_149 (by decide) h (fun c1 h => ?_) (fun c1 h => ?_)
  · refine r_iconst (pc := 158) dX10_taken_158 ci_5 ?_
    refine r_sub [2] rfl ?_
    exact gX10_taken_159 E σ v2 5 h
  · refine r_iconst (pc := 152) dX10_taken_152 ci_3 ?_
    refine r_iload_n (pc := 153) 1 dX10_taken_153 rfl rfl ?_
    refine r_iadd (pc := 154) dX10_taken_154 ?_
    refine r_goto (pc := 155) 159 dX10_taken_155 (by decide) ?_
    refine r_sub [2] rfl ?_
    exact gX10_taken_159 E σ v2 (3 + v1) h
def fX10_taken_2  : Nat → Mem → Int32 → Int32 → Int32 → Option Mem
  | 0, _, _, _, _ => none
  | n + 1, σ, v1, v2, v3 =>
    if v3 ≤ 0 then
      (fX10_taken_146 σ v1 v2)
    else
      (fX10_taken_12 (fun σ_ v1_ v2_ v3_ => fX10_taken_2 n σ_ v1_ v2_ v3_) 300 σ v1 v2 v3 (-1) 0)
set_option maxHeartbeats 4000000 in
set_option maxRecDepth 20000 in
theorem gX10_taken_2 (E : XE)  {r : Mem}  : ∀ (n : Nat) (σ : Mem) (v1 : Int32) (v2 : Int32) (v3 : Int32), fX10_taken_2 n σ v1 v2 v3 = some r → G E LM qX10_taken σ 2 [(0, .ref (xa E 0)), (1, .int v1), (2, .int v2), (3, .int v3)] [] (none, r) := by
  intro n
  induction n with
  | zero => intro σ v1 v2 v3 h; cases h
  | succ n ih =>
    intro σ v1 v2 v3 h
    unfold fX10_taken_2 at h
    refine r_iload_n (pc := 2) 3 dX10_taken_2 rfl rfl ?_
    refine r_if_le (pc := 3) 146 dX10_taken_3 (by decide) h (fun c1 h => ?_) (fun c1 h => ?_)
    · refine r_sub [0, 1, 2] rfl ?_
      exact gX10_taken_146 E σ v1 v2 h
    · refine r_iconst (pc := 6) dX10_taken_6 ci_m1 ?_
      refine r_istore (pc := 7) (lv' := [(4, .int ((-1))), (0, .ref (xa E 0)), (1, .int v1), (2, .int v2), (3, .int v3)]) dX10_taken_7 (Nat.le_of_ble_eq_true rfl) rfl ?_
      refine r_iconst (pc := 9) dX10_taken_9 ci_0 ?_
      refine r_istore (pc := 10) (lv' := [(5, .int 0), (4, .int ((-1))), (0, .ref (xa E 0)), (1, .int v1), (2, .int v2), (3, .int v3)]) dX10_taken_10 (Nat.le_of_ble_eq_true rfl) rfl ?_
      refine r_sub [2, 3, 4, 5, 1, 0] rfl ?_
      exact gX10_taken_12 E (fun σ_ v1_ v2_ v3_ => fX10_taken_2 n σ_ v1_ v2_ v3_) ih 300 σ v1 v2 v3 (-1) 0 h
def fX10_taken (σ : Mem) (v1 : Int32) (v2 : Int32) : Option Mem :=
  fX10_taken_2 300 σ v1 v2 v2
set_option maxHeartbeats 4000000 in
set_option maxRecDepth 20000 in
theorem gX10_taken (E : XE) {r : Mem} (σ : Mem) (v1 : Int32) (v2 : Int32)  (h : fX10_taken σ v1 v2 = some r) : G E LM qX10_taken σ 0 [(0, .ref (xa E 0)), (1, .int v1), (2, .int v2)] [] (none, r) := by
  unfold fX10_taken at h
  refine r_iload_n (pc := 0) 2 dX10_taken_0 rfl rfl ?_
  refine r_istore_n (pc := 1) (lv' := [(3, .int v2), (0, .ref (xa E 0)), (1, .int v1), (2, .int v2)]) dX10_taken_1 rfl (Nat.le_of_ble_eq_true rfl) rfl ?_
  refine r_sub [1, 2, 3, 0] rfl ?_
  exact gX10_taken_2 E 300 σ v1 v2 v2 h
theorem ceX10_taken (l : Launch) (d : SD) (σ : Mem) (v1 : Int32) (v2 : Int32)  {r : Mem} (h : fX10_taken σ v1 v2 = some r) : Me l d LM yX10_taken qX10_taken σ [.ref (d.2.2.1 0), .int v1, .int v2] (none, r) := me_of (avs := fun d => [.ref (d.2.2.1 0), .int v1, .int v2]) (by decide) rfl (Nat.le_of_ble_eq_true rfl) (fun E => gX10_taken E σ v1 v2  h)
def fX10_rule_34  (σ : Mem) (v1 : Int32) (v2 : Int32) (t0 : Int32) (t1 : Int32) (t2 : Int32) : Option (Int32 × Mem) :=
  if fX10_isIn σ t0 t1 t2 = 0 then
    (some ((-1000000001), σ))
  else
    (if inb v1 6 = true then
    (bi (σ 5 v1.toNatClampNeg) (fun x1 =>
    if inb v1 6 = true then
    (bm (mset σ 5 v1.toNatClampNeg v2) (fun m1 =>
    some (x1, m1)))
    else none))
    else none)
set_option maxHeartbeats 4000000 in
set_option maxRecDepth 20000 in
theorem gX10_rule_34 (E : XE)  {r : Int32 × Mem}  (σ : Mem) (v1 : Int32) (v2 : Int32) (t0 : Int32) (t1 : Int32) (t2 : Int32)  (h : fX10_rule_34 σ v1 v2 t0 t1 t2 = some r) : G E LM qX10_rule σ 34 [(0, .ref (xa E 0)), (1, .int v1), (2, .int v2)] [.int t2, .int t1, .int t0] (some r.1, r.2) := by
  unfold fX10_rule_34 at h
  refine r_callS (pc := 34) (As := [.int t0, .int t1, .int t2]) (rest := []) lkRX10_99 (ceX10_isIn _ _ σ t0 t1 t2 rfl) ⟨Nat.le_of_ble_eq_true rfl, Nat.le_of_ble_eq_true rfl⟩ rfl rfl (Nat.le_of_ble_eq_true rfl) dX10_rule_34 rfl ?_
  refine r_if_ne (pc := 37) 43 dX10_rule_37 (by decide) h (fun c1 h => ?_) (fun c1 h => ?_)
  · refine r_ldc (pc := 40) w_894 dX10_rule_40 ?_
    exact r_iretW (pc := 42) rfl dX10_rule_42 h
  · refine r_aload_n (pc := 43) 0 dX10_rule_43 rfl rfl ?_
    refine r_getR (pc := 44) (i := 0) (j := 5) fdRX10_22 nLM_0 kLM_0 (by decide) rfl dX10_rule_44 ?_
    refine r_iload_n (pc := 47) 1 dX10_rule_47 rfl rfl ?_
    refine inb_k h (fun b1 h => ?_)
    refine r_iald (pc := 48) (i := 5) (v1.toNatClampNeg) rfl nLM_5 kLM_5 lLM_5 b1 dX10_rule_48 ?_
    refine g_bi h (fun x1 ex1 h => ?_)
    refine r_istore_n (pc := 49) (lv' := [(3, .int x1), (0, .ref (xa E 0)), (1, .int v1), (2, .int v2)]) dX10_rule_49 rfl (Nat.le_of_ble_eq_true rfl) rfl ?_
    refine r_aload_n (pc := 50) 1 dX10_rule_50 rfl rfl ?_
    refine r_getR (pc := 51) (i := 0) (j := 5) fdRX10_22 nLM_0 kLM_0 (by decide) rfl dX10_rule_51 ?_
    refine r_iload_n (pc := 54) 2 dX10_rule_54 rfl rfl ?_
    refine r_iload_n (pc := 55) 3 dX10_rule_55 rfl rfl ?_
    refine inb_k h (fun b2 h => ?_)
    refine r_iast (pc := 56) (i := 5) (v1.toNatClampNeg) (v2) rfl rfl nLM_5 kLM_5 lLM_5 b2 dX10_rule_56 ?_
    refine g_bm h (fun m1 em1 h => ?_)
    refine r_iload_n (pc := 57) 0 dX10_rule_57 rfl rfl ?_
    exact r_iretW (pc := 58) rfl dX10_rule_58 h
def fX10_rule (σ : Mem) (v1 : Int32) (v2 : Int32) : Option (Int32 × Mem) :=
  if fX10_isIn σ v1 0 5 = 0 then
    (some ((-1000000001), σ))
  else
    (if v1 = 4 then
      (fX10_rule_34 σ v1 v2 v2 0 10)
    else
      (if v1 = 5 then
        (fX10_rule_34 σ v1 v2 v2 0 1000)
      else
        (fX10_rule_34 σ v1 v2 v2 0 100)))
set_option maxHeartbeats 4000000 in
set_option maxRecDepth 20000 in
theorem gX10_rule (E : XE) {r : Int32 × Mem} (σ : Mem) (v1 : Int32) (v2 : Int32)  (h : fX10_rule σ v1 v2 = some r) : G E LM qX10_rule σ 0 [(0, .ref (xa E 0)), (1, .int v1), (2, .int v2)] [] (some r.1, r.2) := by
  unfold fX10_rule at h
  refine r_iload_n (pc := 0) 1 dX10_rule_0 rfl rfl ?_
  refine r_iconst (pc := 1) dX10_rule_1 ci_0 ?_
  refine r_iconst (pc := 2) dX10_rule_2 ci_5 ?_
  refine r_callS (pc := 3) (As := [.int v1, .int 0, .int 5]) (rest := []) lkRX10_99 (ceX10_isIn _ _ σ v1 0 5 rfl) ⟨Nat.le_of_ble_eq_true rfl, Nat.le_of_ble_eq_true rfl⟩ rfl rfl (Nat.le_of_ble_eq_true rfl) dX10_rule_3 rfl ?_
  refine r_if_eq (pc := 6) 40 dX10_rule_6 (by decide) h (fun c1 h => ?_) (fun c1 h => ?_)
  · refine r_ldc (pc := 40) w_894 dX10_rule_40 ?_
    exact r_iretW (pc := 42) rfl dX10_rule_42 h
  · refine r_iload_n (pc := 9) 2 dX10_rule_9 rfl rfl ?_
    refine r_iconst (pc := 10) dX10_rule_10 ci_0 ?_
    refine r_iload_n (pc := 11) 1 dX10_rule_11 rfl rfl ?_
    refine r_iconst (pc := 12) dX10_rule_12 ci_4 ?_
    refine r_icmp_ne (pc := 13) 21 dX10_rule_13 (by decide) h (fun c2 h => ?_) (fun c2 h => ?_)
    · refine r_bipush (pc := 16) dX10_rule_16 cb_10 ?_
      refine r_goto (pc := 18) 34 dX10_rule_18 (by decide) ?_
      exact gX10_rule_34 E σ v1 v2 v2 0 10 h
    · refine r_iload_n (pc := 21) 1 dX10_rule_21 rfl rfl ?_
      refine r_iconst (pc := 22) dX10_rule_22 ci_5 ?_
      refine r_icmp_ne (pc := 23) 32 dX10_rule_23 (by decide) h (fun c3 h => ?_) (fun c3 h => ?_)
      · refine r_sipush (pc := 26) dX10_rule_26 cs_1000 ?_
        refine r_goto (pc := 29) 34 dX10_rule_29 (by decide) ?_
        exact gX10_rule_34 E σ v1 v2 v2 0 1000 h
      · refine r_bipush (pc := 32) dX10_rule_32 cb_100 ?_
        exact gX10_rule_34 E σ v1 v2 v2 0 100 h
theorem ceX10_rule (l : Launch) (d : SD) (σ : Mem) (v1 : Int32) (v2 : Int32)  {r : Int32 × Mem} (h : fX10_rule σ v1 v2 = some r) : Me l d LM yX10_rule qX10_rule σ [.ref (d.2.2.1 0), .int v1, .int v2] (some r.1, r.2) := me_of (avs := fun d => [.ref (d.2.2.1 0), .int v1, .int v2]) (by decide) rfl (Nat.le_of_ble_eq_true rfl) (fun E => gX10_rule E σ v1 v2  h)
def fX10_spend (σ : Mem) (v1 : Int32) (v2 : Int32) : Option (Int32 × Mem) :=
  if fX10_isIn σ v1 0 1 = 0 then
    (some ((-1000000001), σ))
  else
    (if fX10_isIn σ v2 1 100000 = 0 then
      (some ((-1000000001), σ))
    else
      (bo (fX10_fundsOf σ v1) (fun z1 =>
      if v2 ≤ z1 then
        (bo (fX10_taken σ v1 v2) (fun z2 =>
        some (v2, z2)))
      else
        (some ((-1000000002), σ)))))
set_option maxHeartbeats 4000000 in
set_option maxRecDepth 20000 in
theorem gX10_spend (E : XE) {r : Int32 × Mem} (σ : Mem) (v1 : Int32) (v2 : Int32)  (h : fX10_spend σ v1 v2 = some r) : G E LM qX10_spend σ 0 [(0, .ref (xa E 0)), (1, .int v1), (2, .int v2)] [] (some r.1, r.2) := by
  unfold fX10_spend at h
  refine r_iload_n (pc := 0) 1 dX10_spend_0 rfl rfl ?_
  refine r_iconst (pc := 1) dX10_spend_1 ci_0 ?_
  refine r_iconst (pc := 2) dX10_spend_2 ci_1 ?_
  refine r_callS (pc := 3) (As := [.int v1, .int 0, .int 1]) (rest := []) lkRX10_99 (ceX10_isIn _ _ σ v1 0 1 rfl) ⟨Nat.le_of_ble_eq_true rfl, Nat.le_of_ble_eq_true rfl⟩ rfl rfl (Nat.le_of_ble_eq_true rfl) dX10_spend_3 rfl ?_
  refine r_if_eq (pc := 6) 19 dX10_spend_6 (by decide) h (fun c1 h => ?_) (fun c1 h => ?_)
  · refine r_ldc (pc := 19) w_894 dX10_spend_19 ?_
    exact r_iretW (pc := 21) rfl dX10_spend_21 h
  · refine r_iload_n (pc := 9) 2 dX10_spend_9 rfl rfl ?_
    refine r_iconst (pc := 10) dX10_spend_10 ci_1 ?_
    refine r_ldc (pc := 11) w_988 dX10_spend_11 ?_
    refine r_callS (pc := 13) (As := [.int v2, .int 1, .int 100000]) (rest := []) lkRX10_99 (ceX10_isIn _ _ σ v2 1 100000 rfl) ⟨Nat.le_of_ble_eq_true rfl, Nat.le_of_ble_eq_true rfl⟩ rfl rfl (Nat.le_of_ble_eq_true rfl) dX10_spend_13 rfl ?_
    refine r_if_ne (pc := 16) 22 dX10_spend_16 (by decide) h (fun c2 h => ?_) (fun c2 h => ?_)
    · refine r_ldc (pc := 19) w_894 dX10_spend_19 ?_
      exact r_iretW (pc := 21) rfl dX10_spend_21 h
    · refine r_aload_n (pc := 22) 0 dX10_spend_22 rfl rfl ?_
      refine r_iload_n (pc := 23) 1 dX10_spend_23 rfl rfl ?_
      refine bo_k h (fun z1 hz1 h => ?_)
      refine r_callV (pc := 24) (i := 0) (As := [.int v1]) (rest := []) lkRX10_233 (ceX10_fundsOf _ _ σ v1 hz1) nLM_0 kLM_0 (by decide) rfl ⟨Nat.le_of_ble_eq_true rfl, Nat.le_of_ble_eq_true rfl⟩ rfl rfl (Nat.le_of_ble_eq_true rfl) dX10_spend_24 rfl ?_
      refine r_iload_n (pc := 27) 2 dX10_spend_27 rfl rfl ?_
      refine r_icmp_ge (pc := 28) 34 dX10_spend_28 (by decide) h (fun c3 h => ?_) (fun c3 h => ?_)
      · refine r_aload_n (pc := 34) 0 dX10_spend_34 rfl rfl ?_
        refine r_iload_n (pc := 35) 1 dX10_spend_35 rfl rfl ?_
        refine r_iload_n (pc := 36) 2 dX10_spend_36 rfl rfl ?_
        refine bo_k h (fun z2 hz2 h => ?_)
        refine r_callV (pc := 37) (i := 0) (As := [.int v1, .int v2]) (rest := []) lkRX10_251 (ceX10_taken _ _ σ v1 v2 hz2) nLM_0 kLM_0 (by decide) rfl ⟨Nat.le_of_ble_eq_true rfl, Nat.le_of_ble_eq_true rfl⟩ rfl rfl (Nat.le_of_ble_eq_true rfl) dX10_spend_37 rfl ?_
        refine r_iload_n (pc := 40) 2 dX10_spend_40 rfl rfl ?_
        exact r_iretW (pc := 41) rfl dX10_spend_41 h
      · refine r_ldc (pc := 31) w_904 dX10_spend_31 ?_
        exact r_iretW (pc := 33) rfl dX10_spend_33 h
theorem ceX10_spend (l : Launch) (d : SD) (σ : Mem) (v1 : Int32) (v2 : Int32)  {r : Int32 × Mem} (h : fX10_spend σ v1 v2 = some r) : Me l d LM yX10_spend qX10_spend σ [.ref (d.2.2.1 0), .int v1, .int v2] (some r.1, r.2) := me_of (avs := fun d => [.ref (d.2.2.1 0), .int v1, .int v2]) (by decide) rfl (Nat.le_of_ble_eq_true rfl) (fun E => gX10_spend E σ v1 v2  h)
def fX10_gain (σ : Mem) (v1 : Int32) : Option Int32 :=
  if inb v1 10 = true then
  (if σ 1 v1.toNatClampNeg = 1 then
    (some (4))
  else
    (if inb v1 10 = true then
    (if σ 1 v1.toNatClampNeg < 2 then
      (some (6))
    else
      (some (9)))
    else none))
  else none
set_option maxHeartbeats 4000000 in
set_option maxRecDepth 20000 in
theorem gX10_gain (E : XE) {r : Int32} (σ : Mem) (v1 : Int32)  (h : fX10_gain σ v1 = some r) : G E LM qX10_gain σ 0 [(0, .ref (xa E 0)), (1, .int v1)] [] (some r, σ) := by
  unfold fX10_gain at h
  refine r_aload_n (pc := 0) 0 dX10_gain_0 rfl rfl ?_
  refine r_getR (pc := 1) (i := 0) (j := 1) fdRX10_7 nLM_0 kLM_0 (by decide) rfl dX10_gain_1 ?_
  refine r_iload_n (pc := 4) 1 dX10_gain_4 rfl rfl ?_
  refine inb_k h (fun b1 h => ?_)
  refine r_iald (pc := 5) (i := 1) (v1.toNatClampNeg) rfl nLM_1 kLM_1 lLM_1 b1 dX10_gain_5 ?_
  refine r_iconst (pc := 6) dX10_gain_6 ci_1 ?_
  refine r_icmp_ne (pc := 7) 14 dX10_gain_7 (by decide) h (fun c1 h => ?_) (fun c1 h => ?_)
  · refine r_iconst (pc := 10) dX10_gain_10 ci_4 ?_
    refine r_goto (pc := 11) 31 dX10_gain_11 (by decide) ?_
    exact r_iret (pc := 31) rfl dX10_gain_31 (Option.some.inj h) rfl
  · refine r_aload_n (pc := 14) 0 dX10_gain_14 rfl rfl ?_
    refine r_getR (pc := 15) (i := 0) (j := 1) fdRX10_7 nLM_0 kLM_0 (by decide) rfl dX10_gain_15 ?_
    refine r_iload_n (pc := 18) 1 dX10_gain_18 rfl rfl ?_
    refine inb_k h (fun b2 h => ?_)
    refine r_iald (pc := 19) (i := 1) (v1.toNatClampNeg) rfl nLM_1 kLM_1 lLM_1 b2 dX10_gain_19 ?_
    refine r_iconst (pc := 20) dX10_gain_20 ci_2 ?_
    refine r_icmp_lt (pc := 21) 29 dX10_gain_21 (by decide) h (fun c2 h => ?_) (fun c2 h => ?_)
    · refine r_bipush (pc := 29) dX10_gain_29 cb_6 ?_
      exact r_iret (pc := 31) rfl dX10_gain_31 (Option.some.inj h) rfl
    · refine r_bipush (pc := 24) dX10_gain_24 cb_9 ?_
      refine r_goto (pc := 26) 31 dX10_gain_26 (by decide) ?_
      exact r_iret (pc := 31) rfl dX10_gain_31 (Option.some.inj h) rfl
theorem ceX10_gain (l : Launch) (d : SD) (σ : Mem) (v1 : Int32)  {r : Int32} (h : fX10_gain σ v1 = some r) : Me l d LM yX10_gain qX10_gain σ [.ref (d.2.2.1 0), .int v1] (some r, σ) := me_of (avs := fun d => [.ref (d.2.2.1 0), .int v1]) (by decide) rfl (Nat.le_of_ble_eq_true rfl) (fun E => gX10_gain E σ v1  h)
def fX10_worked_61  (σ : Mem) (v1 : Int32) (t0 : Int32) : Option (Int32 × Mem) :=
  bo (fX10_taken σ (2 + v1) t0) (fun z1 =>
  if inb v1 10 = true then
  (bo (fX10_gain z1 v1) (fun z2 =>
  if inb v1 10 = true then
  (bm (mset z1 2 v1.toNatClampNeg ((z1 2 v1.toNatClampNeg) + (t0 * z2))) (fun m1 =>
  if inb v1 10 = true then
  (if m1 2 v1.toNatClampNeg ≤ 1000 then
    (if inb v1 10 = true then
    (if inb v1 10 = true then
    (bm (mset m1 2 v1.toNatClampNeg (m1 2 v1.toNatClampNeg)) (fun m2 =>
    some (t0, m2)))
    else none)
    else none)
  else
    (if inb v1 10 = true then
    (bm (mset m1 2 v1.toNatClampNeg 1000) (fun m3 =>
    some (t0, m3)))
    else none))
  else none))
  else none))
  else none)
set_option maxHeartbeats 4000000 in
set_option maxRecDepth 20000 in
theorem gX10_worked_61 (E : XE)  {r : Int32 × Mem}  (σ : Mem) (v1 : Int32) (t0 : Int32)  (h : fX10_worked_61 σ v1 t0 = some r) : G E LM qX10_worked σ 61 [(0, .ref (xa E 0)), (1, .int v1)] [.int t0] (some r.1, r.2) := by
  unfold fX10_worked_61 at h
  refine r_istore (pc := 61) (lv' := [(4, .int t0), (0, .ref (xa E 0)), (1, .int v1)]) dX10_worked_61 (Nat.le_of_ble_eq_true rfl) rfl ?_
  refine r_aload_n (pc := 63) 1 dX10_worked_63 rfl rfl ?_
  refine r_iconst (pc := 64) dX10_worked_64 ci_2 ?_
  refine r_iload_n (pc := 65) 2 dX10_worked_65 rfl rfl ?_
  refine r_iadd (pc := 66) dX10_worked_66 ?_
  refine r_iload (pc := 67) 0 dX10_worked_67 rfl ?_
  refine bo_k h (fun z1 hz1 h => ?_)
  refine r_callV (pc := 69) (i := 0) (As := [.int (2 + v1), .int t0]) (rest := []) lkRX10_251 (ceX10_taken _ _ σ (2 + v1) t0 hz1) nLM_0 kLM_0 (by decide) rfl ⟨Nat.le_of_ble_eq_true rfl, Nat.le_of_ble_eq_true rfl⟩ rfl rfl (Nat.le_of_ble_eq_true rfl) dX10_worked_69 rfl ?_
  refine r_aload_n (pc := 72) 1 dX10_worked_72 rfl rfl ?_
  refine r_getR (pc := 73) (i := 0) (j := 2) fdRX10_13 nLM_0 kLM_0 (by decide) rfl dX10_worked_73 ?_
  refine r_iload_n (pc := 76) 2 dX10_worked_76 rfl rfl ?_
  refine r_dup2 (pc := 77) dX10_worked_77 rfl rfl ?_
  refine inb_k h (fun b1 h => ?_)
  refine r_iald (pc := 78) (i := 2) (v1.toNatClampNeg) rfl nLM_2 kLM_2 lLM_2 b1 dX10_worked_78 ?_
  refine r_iload (pc := 79) 0 dX10_worked_79 rfl ?_
  refine r_aload_n (pc := 81) 1 dX10_worked_81 rfl rfl ?_
  refine r_iload_n (pc := 82) 2 dX10_worked_82 rfl rfl ?_
  refine bo_k h (fun z2 hz2 h => ?_)
  refine r_callV (pc := 83) (i := 0) (As := [.int v1]) (rest := [.int t0, .int (z1 2 v1.toNatClampNeg), .int v1, .ref (xa E 2)]) lkRX10_254 (ceX10_gain _ _ z1 v1 hz2) nLM_0 kLM_0 (by decide) rfl ⟨Nat.le_of_ble_eq_true rfl, Nat.le_of_ble_eq_true rfl⟩ rfl rfl (Nat.le_of_ble_eq_true rfl) dX10_worked_83 rfl ?_
  refine r_imul (pc := 86) dX10_worked_86 ?_
  refine r_iadd (pc := 87) dX10_worked_87 ?_
  refine inb_k h (fun b2 h => ?_)
  refine r_iast (pc := 88) (i := 2) (v1.toNatClampNeg) ((z1 2 v1.toNatClampNeg) + (t0 * z2)) rfl rfl nLM_2 kLM_2 lLM_2 b2 dX10_worked_88 ?_
  refine g_bm h (fun m1 em1 h => ?_)
  refine r_aload_n (pc := 89) 1 dX10_worked_89 rfl rfl ?_
  refine r_getR (pc := 90) (i := 0) (j := 2) fdRX10_13 nLM_0 kLM_0 (by decide) rfl dX10_worked_90 ?_
  refine r_iload_n (pc := 93) 2 dX10_worked_93 rfl rfl ?_
  refine r_aload_n (pc := 94) 1 dX10_worked_94 rfl rfl ?_
  refine r_getR (pc := 95) (i := 0) (j := 2) fdRX10_13 nLM_0 kLM_0 (by decide) rfl dX10_worked_95 ?_
  refine r_iload_n (pc := 98) 2 dX10_worked_98 rfl rfl ?_
  refine inb_k h (fun b3 h => ?_)
  refine r_iald (pc := 99) (i := 2) (v1.toNatClampNeg) rfl nLM_2 kLM_2 lLM_2 b3 dX10_worked_99 ?_
  refine r_sipush (pc := 100) dX10_worked_100 cs_1000 ?_
  refine r_icmp_le (pc := 103) 112 dX10_worked_103 (by decide) h (fun c1 h => ?_) (fun c1 h => ?_)
  · refine r_aload_n (pc := 112) 1 dX10_worked_112 rfl rfl ?_
    refine r_getR (pc := 113) (i := 0) (j := 2) fdRX10_13 nLM_0 kLM_0 (by decide) rfl dX10_worked_113 ?_
    refine r_iload_n (pc := 116) 2 dX10_worked_116 rfl rfl ?_
    refine inb_k h (fun b4 h => ?_)
    refine r_iald (pc := 117) (i := 2) (v1.toNatClampNeg) rfl nLM_2 kLM_2 lLM_2 b4 dX10_worked_117 ?_
    refine inb_k h (fun b5 h => ?_)
    refine r_iast (pc := 118) (i := 2) (v1.toNatClampNeg) (m1 2 v1.toNatClampNeg) rfl rfl nLM_2 kLM_2 lLM_2 b5 dX10_worked_118 ?_
    refine g_bm h (fun m2 em2 h => ?_)
    refine r_iload (pc := 119) 0 dX10_worked_119 rfl ?_
    exact r_iretW (pc := 121) rfl dX10_worked_121 h
  · refine r_sipush (pc := 106) dX10_worked_106 cs_1000 ?_
    refine r_goto (pc := 109) 118 dX10_worked_109 (by decide) ?_
    refine inb_k h (fun b6 h => ?_)
    refine r_iast (pc := 118) (i := 2) (v1.toNatClampNeg) (1000) rfl rfl nLM_2 kLM_2 lLM_2 b6 dX10_worked_118 ?_
    refine g_bm h (fun m3 em3 h => ?_)
    refine r_iload (pc := 119) 0 dX10_worked_119 rfl ?_
    exact r_iretW (pc := 121) rfl dX10_worked_121 h
def fX10_worked_45  (σ : Mem) (v1 : Int32) (v5 : Int32) (t0 : Int32) : Option (Int32 × Mem) :=
  if t0 ≤ v5 then
    (fX10_worked_61 σ v1 t0)
  else
    (fX10_worked_61 σ v1 v5)
set_option maxHeartbeats 4000000 in
set_option maxRecDepth 20000 in
theorem gX10_worked_45 (E : XE)  {r : Int32 × Mem}  (σ : Mem) (v1 : Int32) (v5 : Int32) (t0 : Int32)  (h : fX10_worked_45 σ v1 v5 t0 = some r) : G E LM qX10_worked σ 45 [(0, .ref (xa E 0)), (1, .int v1), (5, .int v5)] [.int t0] (some r.1, r.2) := by
  unfold fX10_worked_45 at h
  refine r_istore (pc := 45) (lv' := [(4, .int t0), (0, .ref (xa E 0)), (1, .int v1), (5, .int v5)]) dX10_worked_45 (Nat.le_of_ble_eq_true rfl) rfl ?_
  refine r_iload (pc := 47) 0 dX10_worked_47 rfl ?_
  refine r_iload (pc := 49) 3 dX10_worked_49 rfl ?_
  refine r_icmp_le (pc := 51) 59 dX10_worked_51 (by decide) h (fun c1 h => ?_) (fun c1 h => ?_)
  · refine r_iload (pc := 59) 0 dX10_worked_59 rfl ?_
    refine r_sub [1, 2] rfl ?_
    exact gX10_worked_61 E σ v1 t0 h
  · refine r_iload (pc := 54) 3 dX10_worked_54 rfl ?_
    refine r_goto (pc := 56) 61 dX10_worked_56 (by decide) ?_
    refine r_sub [1, 2] rfl ?_
    exact gX10_worked_61 E σ v1 v5 h
def fX10_worked (σ : Mem) (v1 : Int32) (v2 : Int32) (v3 : Int32) : Option (Int32 × Mem) :=
  if inb v1 10 = true then
  (bo (fX10_gain σ v1) (fun z1 =>
  bo (fX10_gain σ v1) (fun z2 =>
  if z2 = 0 then none else
  bi ((((v2 - (σ 2 v1.toNatClampNeg)) + z1) - 1) / z2) (fun x1 =>
  bo (fX10_fundsOf σ (2 + v1)) (fun z3 =>
  if x1 ≤ v3 then
    (fX10_worked_45 σ v1 z3 x1)
  else
    (fX10_worked_45 σ v1 z3 v3))))))
  else none
set_option maxHeartbeats 4000000 in
set_option maxRecDepth 20000 in
theorem gX10_worked (E : XE) {r : Int32 × Mem} (σ : Mem) (v1 : Int32) (v2 : Int32) (v3 : Int32)  (h : fX10_worked σ v1 v2 v3 = some r) : G E LM qX10_worked σ 0 [(0, .ref (xa E 0)), (1, .int v1), (2, .int v2), (3, .int v3)] [] (some r.1, r.2) := by
  unfold fX10_worked at h
  refine r_iload_n (pc := 0) 2 dX10_worked_0 rfl rfl ?_
  refine r_aload_n (pc := 1) 0 dX10_worked_1 rfl rfl ?_
  refine r_getR (pc := 2) (i := 0) (j := 2) fdRX10_13 nLM_0 kLM_0 (by decide) rfl dX10_worked_2 ?_
  refine r_iload_n (pc := 5) 1 dX10_worked_5 rfl rfl ?_
  refine inb_k h (fun b1 h => ?_)
  refine r_iald (pc := 6) (i := 2) (v1.toNatClampNeg) rfl nLM_2 kLM_2 lLM_2 b1 dX10_worked_6 ?_
  refine r_isub (pc := 7) dX10_worked_7 ?_
  refine r_aload_n (pc := 8) 0 dX10_worked_8 rfl rfl ?_
  refine r_iload_n (pc := 9) 1 dX10_worked_9 rfl rfl ?_
  refine bo_k h (fun z1 hz1 h => ?_)
  refine r_callV (pc := 10) (i := 0) (As := [.int v1]) (rest := [.int (v2 - (σ 2 v1.toNatClampNeg))]) lkRX10_254 (ceX10_gain _ _ σ v1 hz1) nLM_0 kLM_0 (by decide) rfl ⟨Nat.le_of_ble_eq_true rfl, Nat.le_of_ble_eq_true rfl⟩ rfl rfl (Nat.le_of_ble_eq_true rfl) dX10_worked_10 rfl ?_
  refine r_iadd (pc := 13) dX10_worked_13 ?_
  refine r_iconst (pc := 14) dX10_worked_14 ci_1 ?_
  refine r_isub (pc := 15) dX10_worked_15 ?_
  refine r_aload_n (pc := 16) 0 dX10_worked_16 rfl rfl ?_
  refine r_iload_n (pc := 17) 1 dX10_worked_17 rfl rfl ?_
  refine bo_k h (fun z2 hz2 h => ?_)
  refine r_callV (pc := 18) (i := 0) (As := [.int v1]) (rest := [.int (((v2 - (σ 2 v1.toNatClampNeg)) + z1) - 1)]) lkRX10_254 (ceX10_gain _ _ σ v1 hz2) nLM_0 kLM_0 (by decide) rfl ⟨Nat.le_of_ble_eq_true rfl, Nat.le_of_ble_eq_true rfl⟩ rfl rfl (Nat.le_of_ble_eq_true rfl) dX10_worked_18 rfl ?_
  refine ite_k h (fun c1 h => nomatch h) (fun c1 h => ?_)
  refine r_idiv (pc := 21) dX10_worked_21 c1 ?_
  refine g_bi h (fun x1 ex1 h => ?_)
  refine r_istore (pc := 22) (lv' := [(4, .int x1), (0, .ref (xa E 0)), (1, .int v1), (2, .int v2), (3, .int v3)]) dX10_worked_22 (Nat.le_of_ble_eq_true rfl) rfl ?_
  refine r_aload_n (pc := 24) 1 dX10_worked_24 rfl rfl ?_
  refine r_iconst (pc := 25) dX10_worked_25 ci_2 ?_
  refine r_iload_n (pc := 26) 2 dX10_worked_26 rfl rfl ?_
  refine r_iadd (pc := 27) dX10_worked_27 ?_
  refine bo_k h (fun z3 hz3 h => ?_)
  refine r_callV (pc := 28) (i := 0) (As := [.int (2 + v1)]) (rest := []) lkRX10_233 (ceX10_fundsOf _ _ σ (2 + v1) hz3) nLM_0 kLM_0 (by decide) rfl ⟨Nat.le_of_ble_eq_true rfl, Nat.le_of_ble_eq_true rfl⟩ rfl rfl (Nat.le_of_ble_eq_true rfl) dX10_worked_28 rfl ?_
  refine r_istore (pc := 31) (lv' := [(5, .int z3), (4, .int x1), (0, .ref (xa E 0)), (1, .int v1), (2, .int v2), (3, .int v3)]) dX10_worked_31 (Nat.le_of_ble_eq_true rfl) rfl ?_
  refine r_iload (pc := 33) 1 dX10_worked_33 rfl ?_
  refine r_iload_n (pc := 35) 5 dX10_worked_35 rfl rfl ?_
  refine r_icmp_le (pc := 36) 43 dX10_worked_36 (by decide) h (fun c2 h => ?_) (fun c2 h => ?_)
  · refine r_iload (pc := 43) 1 dX10_worked_43 rfl ?_
    refine r_sub [2, 3, 0] rfl ?_
    exact gX10_worked_45 E σ v1 z3 x1 h
  · refine r_iload_n (pc := 39) 5 dX10_worked_39 rfl rfl ?_
    refine r_goto (pc := 40) 45 dX10_worked_40 (by decide) ?_
    refine r_sub [2, 3, 0] rfl ?_
    exact gX10_worked_45 E σ v1 z3 v3 h
theorem ceX10_worked (l : Launch) (d : SD) (σ : Mem) (v1 : Int32) (v2 : Int32) (v3 : Int32)  {r : Int32 × Mem} (h : fX10_worked σ v1 v2 v3 = some r) : Me l d LM yX10_worked qX10_worked σ [.ref (d.2.2.1 0), .int v1, .int v2, .int v3] (some r.1, r.2) := me_of (avs := fun d => [.ref (d.2.2.1 0), .int v1, .int v2, .int v3]) (by decide) rfl (Nat.le_of_ble_eq_true rfl) (fun E => gX10_worked E σ v1 v2 v3  h)
def fX10_work (σ : Mem) (v1 : Int32) (v2 : Int32) : Option (Int32 × Mem) :=
  if fX10_isArch σ v1 = 0 then
    (some ((-1000000001), σ))
  else
    (if fX10_isIn σ v2 1 100000 = 0 then
      (some ((-1000000001), σ))
    else
      (if inb v1 10 = true then
      (if σ 2 v1.toNatClampNeg = 1000 then
        (some ((-1000000002), σ))
      else
        (bo (fX10_fundsOf σ (2 + v1)) (fun z1 =>
        if z1 = 0 then
          (some ((-1000000002), σ))
        else
          (bo (fX10_worked σ v1 1000 v2) (fun z2 =>
          some (z2.1, z2.2))))))
      else none))
set_option maxHeartbeats 4000000 in
set_option maxRecDepth 20000 in
theorem gX10_work (E : XE) {r : Int32 × Mem} (σ : Mem) (v1 : Int32) (v2 : Int32)  (h : fX10_work σ v1 v2 = some r) : G E LM qX10_work σ 0 [(0, .ref (xa E 0)), (1, .int v1), (2, .int v2)] [] (some r.1, r.2) := by
  unfold fX10_work at h
  refine r_aload_n (pc := 0) 0 dX10_work_0 rfl rfl ?_
  refine r_iload_n (pc := 1) 1 dX10_work_1 rfl rfl ?_
  refine r_callV (pc := 2) (i := 0) (As := [.int v1]) (rest := []) lkRX10_108 (ceX10_isArch _ _ σ v1 rfl) nLM_0 kLM_0 (by decide) rfl ⟨Nat.le_of_ble_eq_true rfl, Nat.le_of_ble_eq_true rfl⟩ rfl rfl (Nat.le_of_ble_eq_true rfl) dX10_work_2 rfl ?_
  refine r_if_eq (pc := 5) 18 dX10_work_5 (by decide) h (fun c1 h => ?_) (fun c1 h => ?_)
  · refine r_ldc (pc := 18) w_894 dX10_work_18 ?_
    exact r_iretW (pc := 20) rfl dX10_work_20 h
  · refine r_iload_n (pc := 8) 2 dX10_work_8 rfl rfl ?_
    refine r_iconst (pc := 9) dX10_work_9 ci_1 ?_
    refine r_ldc (pc := 10) w_988 dX10_work_10 ?_
    refine r_callS (pc := 12) (As := [.int v2, .int 1, .int 100000]) (rest := []) lkRX10_99 (ceX10_isIn _ _ σ v2 1 100000 rfl) ⟨Nat.le_of_ble_eq_true rfl, Nat.le_of_ble_eq_true rfl⟩ rfl rfl (Nat.le_of_ble_eq_true rfl) dX10_work_12 rfl ?_
    refine r_if_ne (pc := 15) 21 dX10_work_15 (by decide) h (fun c2 h => ?_) (fun c2 h => ?_)
    · refine r_ldc (pc := 18) w_894 dX10_work_18 ?_
      exact r_iretW (pc := 20) rfl dX10_work_20 h
    · refine r_aload_n (pc := 21) 0 dX10_work_21 rfl rfl ?_
      refine r_getR (pc := 22) (i := 0) (j := 2) fdRX10_13 nLM_0 kLM_0 (by decide) rfl dX10_work_22 ?_
      refine r_iload_n (pc := 25) 1 dX10_work_25 rfl rfl ?_
      refine inb_k h (fun b1 h => ?_)
      refine r_iald (pc := 26) (i := 2) (v1.toNatClampNeg) rfl nLM_2 kLM_2 lLM_2 b1 dX10_work_26 ?_
      refine r_sipush (pc := 27) dX10_work_27 cs_1000 ?_
      refine r_icmp_eq (pc := 30) 43 dX10_work_30 (by decide) h (fun c3 h => ?_) (fun c3 h => ?_)
      · refine r_ldc (pc := 43) w_904 dX10_work_43 ?_
        exact r_iretW (pc := 45) rfl dX10_work_45 h
      · refine r_aload_n (pc := 33) 0 dX10_work_33 rfl rfl ?_
        refine r_iconst (pc := 34) dX10_work_34 ci_2 ?_
        refine r_iload_n (pc := 35) 1 dX10_work_35 rfl rfl ?_
        refine r_iadd (pc := 36) dX10_work_36 ?_
        refine bo_k h (fun z1 hz1 h => ?_)
        refine r_callV (pc := 37) (i := 0) (As := [.int (2 + v1)]) (rest := []) lkRX10_233 (ceX10_fundsOf _ _ σ (2 + v1) hz1) nLM_0 kLM_0 (by decide) rfl ⟨Nat.le_of_ble_eq_true rfl, Nat.le_of_ble_eq_true rfl⟩ rfl rfl (Nat.le_of_ble_eq_true rfl) dX10_work_37 rfl ?_
        refine r_if_ne (pc := 40) 46 dX10_work_40 (by decide) h (fun c4 h => ?_) (fun c4 h => ?_)
        · refine r_ldc (pc := 43) w_904 dX10_work_43 ?_
          exact r_iretW (pc := 45) rfl dX10_work_45 h
        · refine r_aload_n (pc := 46) 0 dX10_work_46 rfl rfl ?_
          refine r_iload_n (pc := 47) 1 dX10_work_47 rfl rfl ?_
          refine r_sipush (pc := 48) dX10_work_48 cs_1000 ?_
          refine r_iload_n (pc := 51) 2 dX10_work_51 rfl rfl ?_
          refine bo_k h (fun z2 hz2 h => ?_)
          refine r_callV (pc := 52) (i := 0) (As := [.int v1, .int 1000, .int v2]) (rest := []) lkRX10_257 (ceX10_worked _ _ σ v1 1000 v2 hz2) nLM_0 kLM_0 (by decide) rfl ⟨Nat.le_of_ble_eq_true rfl, Nat.le_of_ble_eq_true rfl⟩ rfl rfl (Nat.le_of_ble_eq_true rfl) dX10_work_52 rfl ?_
          exact r_iretW (pc := 55) rfl dX10_work_55 h
theorem ceX10_work (l : Launch) (d : SD) (σ : Mem) (v1 : Int32) (v2 : Int32)  {r : Int32 × Mem} (h : fX10_work σ v1 v2 = some r) : Me l d LM yX10_work qX10_work σ [.ref (d.2.2.1 0), .int v1, .int v2] (some r.1, r.2) := me_of (avs := fun d => [.ref (d.2.2.1 0), .int v1, .int v2]) (by decide) rfl (Nat.le_of_ble_eq_true rfl) (fun E => gX10_work E σ v1 v2  h)
def fX10_keep_85 (c25 : Mem → Int32 → Option Mem) (c39 : Mem → Int32 → Int32 → Int32 → Option Mem) (σ : Mem) (v1 : Int32) (v2 : Int32) (v3 : Int32) (t0 : Int32) : Option Mem :=
  if t0 = 0 then
    (c39 σ v1 v2 (v3 + 1))
  else
    (if v2 < 0 then
      (c39 σ v1 v3 (v3 + 1))
    else
      (if inb v3 10 = true then
      (if inb v2 10 = true then
      (if σ 2 v2.toNatClampNeg ≤ σ 2 v3.toNatClampNeg then
        (c39 σ v1 v2 (v3 + 1))
      else
        (c39 σ v1 v3 (v3 + 1)))
      else none)
      else none))
set_option maxHeartbeats 4000000 in
set_option maxRecDepth 20000 in
theorem gX10_keep_85 (E : XE) (c25 : Mem → Int32 → Option Mem) (c39 : Mem → Int32 → Int32 → Int32 → Option Mem) {r : Mem} (hc25 : ∀ (σ : Mem) (v1 : Int32), c25 σ v1 = some r → G E LM qX10_keep σ 25 [(0, .ref (xa E 0)), (1, .int v1)] [] (none, r)) (hc39 : ∀ (σ : Mem) (v1 : Int32) (v2 : Int32) (v3 : Int32), c39 σ v1 v2 v3 = some r → G E LM qX10_keep σ 39 [(0, .ref (xa E 0)), (1, .int v1), (2, .int v2), (3, .int v3)] [] (none, r)) (σ : Mem) (v1 : Int32) (v2 : Int32) (v3 : Int32) (t0 : Int32)  (h : fX10_keep_85 c25 c39 σ v1 v2 v3 t0 = some r) : G E LM qX10_keep σ 85 [(0, .ref (xa E 0)), (1, .int v1), (2, .int v2), (3, .int v3)] [.int t0] (none, r) := by
  unfold fX10_keep_85 at h
  refine r_istore (pc := 85) (lv' := [(4, .int t0), (0, .ref (xa E 0)), (1, .int v1), (2, .int v2), (3, .int v3)]) dX10_keep_85 (Nat.le_of_ble_eq_true rfl) rfl ?_
  refine r_iload (pc := 87) 0 dX10_keep_87 rfl ?_
  refine r_if_eq (pc := 89) 115 dX10_keep_89 (by decide) h (fun c1 h => ?_) (fun c1 h => ?_)
  · refine r_iload_n (pc := 115) 3 dX10_keep_115 rfl rfl ?_
    refine r_istore_n (pc := 116) (lv' := [(2, .int v2), (4, .int t0), (0, .ref (xa E 0)), (1, .int v1), (3, .int v3)]) dX10_keep_116 rfl (Nat.le_of_ble_eq_true rfl) rfl ?_
    refine r_iinc (pc := 117) (v := v3 + 1) (lv' := [(3, .int (v3 + 1)), (2, .int v2), (4, .int t0), (0, .ref (xa E 0)), (1, .int v1)]) 4 dX10_keep_117 rfl (by rw [ci_1]) (Nat.le_of_ble_eq_true rfl) rfl ?_
    refine r_goto (pc := 120) 39 dX10_keep_120 (by decide) ?_
    refine r_sub [3, 4, 1, 0] rfl ?_
    exact hc39 σ v1 v2 (v3 + 1) h
  · refine r_iload_n (pc := 92) 3 dX10_keep_92 rfl rfl ?_
    refine r_if_lt (pc := 93) 111 dX10_keep_93 (by decide) h (fun c2 h => ?_) (fun c2 h => ?_)
    · refine r_iload_n (pc := 111) 4 dX10_keep_111 rfl rfl ?_
      refine r_goto (pc := 112) 116 dX10_keep_112 (by decide) ?_
      refine r_istore_n (pc := 116) (lv' := [(2, .int v3), (4, .int t0), (0, .ref (xa E 0)), (1, .int v1), (3, .int v3)]) dX10_keep_116 rfl (Nat.le_of_ble_eq_true rfl) rfl ?_
      refine r_iinc (pc := 117) (v := v3 + 1) (lv' := [(3, .int (v3 + 1)), (2, .int v3), (4, .int t0), (0, .ref (xa E 0)), (1, .int v1)]) 4 dX10_keep_117 rfl (by rw [ci_1]) (Nat.le_of_ble_eq_true rfl) rfl ?_
      refine r_goto (pc := 120) 39 dX10_keep_120 (by decide) ?_
      refine r_sub [3, 4, 1, 0] rfl ?_
      exact hc39 σ v1 v3 (v3 + 1) h
    · refine r_aload_n (pc := 96) 1 dX10_keep_96 rfl rfl ?_
      refine r_getR (pc := 97) (i := 0) (j := 2) fdRX10_13 nLM_0 kLM_0 (by decide) rfl dX10_keep_97 ?_
      refine r_iload_n (pc := 100) 4 dX10_keep_100 rfl rfl ?_
      refine inb_k h (fun b1 h => ?_)
      refine r_iald (pc := 101) (i := 2) (v3.toNatClampNeg) rfl nLM_2 kLM_2 lLM_2 b1 dX10_keep_101 ?_
      refine r_aload_n (pc := 102) 1 dX10_keep_102 rfl rfl ?_
      refine r_getR (pc := 103) (i := 0) (j := 2) fdRX10_13 nLM_0 kLM_0 (by decide) rfl dX10_keep_103 ?_
      refine r_iload_n (pc := 106) 3 dX10_keep_106 rfl rfl ?_
      refine inb_k h (fun b2 h => ?_)
      refine r_iald (pc := 107) (i := 2) (v2.toNatClampNeg) rfl nLM_2 kLM_2 lLM_2 b2 dX10_keep_107 ?_
      refine r_icmp_ge (pc := 108) 115 dX10_keep_108 (by decide) h (fun c3 h => ?_) (fun c3 h => ?_)
      · refine r_iload_n (pc := 115) 3 dX10_keep_115 rfl rfl ?_
        refine r_istore_n (pc := 116) (lv' := [(2, .int v2), (4, .int t0), (0, .ref (xa E 0)), (1, .int v1), (3, .int v3)]) dX10_keep_116 rfl (Nat.le_of_ble_eq_true rfl) rfl ?_
        refine r_iinc (pc := 117) (v := v3 + 1) (lv' := [(3, .int (v3 + 1)), (2, .int v2), (4, .int t0), (0, .ref (xa E 0)), (1, .int v1)]) 4 dX10_keep_117 rfl (by rw [ci_1]) (Nat.le_of_ble_eq_true rfl) rfl ?_
        refine r_goto (pc := 120) 39 dX10_keep_120 (by decide) ?_
        refine r_sub [3, 4, 1, 0] rfl ?_
        exact hc39 σ v1 v2 (v3 + 1) h
      · refine r_iload_n (pc := 111) 4 dX10_keep_111 rfl rfl ?_
        refine r_goto (pc := 112) 116 dX10_keep_112 (by decide) ?_
        refine r_istore_n (pc := 116) (lv' := [(2, .int v3), (4, .int t0), (0, .ref (xa E 0)), (1, .int v1), (3, .int v3)]) dX10_keep_116 rfl (Nat.le_of_ble_eq_true rfl) rfl ?_
        refine r_iinc (pc := 117) (v := v3 + 1) (lv' := [(3, .int (v3 + 1)), (2, .int v3), (4, .int t0), (0, .ref (xa E 0)), (1, .int v1)]) 4 dX10_keep_117 rfl (by rw [ci_1]) (Nat.le_of_ble_eq_true rfl) rfl ?_
        refine r_goto (pc := 120) 39 dX10_keep_120 (by decide) ?_
        refine r_sub [3, 4, 1, 0] rfl ?_
        exact hc39 σ v1 v3 (v3 + 1) h
def fX10_keep_84 (c25 : Mem → Int32 → Option Mem) (c39 : Mem → Int32 → Int32 → Int32 → Option Mem) (σ : Mem) (v1 : Int32) (v2 : Int32) (v3 : Int32) : Option Mem :=
  fX10_keep_85 c25 c39 σ v1 v2 v3 0
set_option maxHeartbeats 4000000 in
set_option maxRecDepth 20000 in
theorem gX10_keep_84 (E : XE) (c25 : Mem → Int32 → Option Mem) (c39 : Mem → Int32 → Int32 → Int32 → Option Mem) {r : Mem} (hc25 : ∀ (σ : Mem) (v1 : Int32), c25 σ v1 = some r → G E LM qX10_keep σ 25 [(0, .ref (xa E 0)), (1, .int v1)] [] (none, r)) (hc39 : ∀ (σ : Mem) (v1 : Int32) (v2 : Int32) (v3 : Int32), c39 σ v1 v2 v3 = some r → G E LM qX10_keep σ 39 [(0, .ref (xa E 0)), (1, .int v1), (2, .int v2), (3, .int v3)] [] (none, r)) (σ : Mem) (v1 : Int32) (v2 : Int32) (v3 : Int32)  (h : fX10_keep_84 c25 c39 σ v1 v2 v3 = some r) : G E LM qX10_keep σ 84 [(0, .ref (xa E 0)), (1, .int v1), (2, .int v2), (3, .int v3)] [] (none, r) := by
  unfold fX10_keep_84 at h
  refine r_iconst (pc := 84) dX10_keep_84 ci_0 ?_
  exact gX10_keep_85 E c25 c39 hc25 hc39 σ v1 v2 v3 0 h
def fX10_keep_123 (c25 : Mem → Int32 → Option Mem) (σ : Mem) (v1 : Int32) (v2 : Int32) : Option Mem :=
  if 0 ≤ v2 then
    (if inb v2 10 = true then
    (bm (mset σ 27 v2.toNatClampNeg 1) (fun m1 =>
    bo (fX10_worked m1 v2 (m1 5 5) 100000000) (fun z1 =>
    c25 z1.2 (v1 + 1))))
    else none)
  else
    (some σ)
set_option maxHeartbeats 4000000 in
set_option maxRecDepth 20000 in
theorem gX10_keep_123 (E : XE) (c25 : Mem → Int32 → Option Mem) {r : Mem} (hc25 : ∀ (σ : Mem) (v1 : Int32), c25 σ v1 = some r → G E LM qX10_keep σ 25 [(0, .ref (xa E 0)), (1, .int v1)] [] (none, r)) (σ : Mem) (v1 : Int32) (v2 : Int32)  (h : fX10_keep_123 c25 σ v1 v2 = some r) : G E LM qX10_keep σ 123 [(0, .ref (xa E 0)), (1, .int v1), (2, .int v2)] [] (none, r) := by
  unfold fX10_keep_123 at h
  refine r_iload_n (pc := 123) 2 dX10_keep_123 rfl rfl ?_
  refine r_if_ge (pc := 124) 128 dX10_keep_124 (by decide) h (fun c1 h => ?_) (fun c1 h => ?_)
  · refine r_aload_n (pc := 128) 0 dX10_keep_128 rfl rfl ?_
    refine r_getR (pc := 129) (i := 0) (j := 27) fdRX10_89 nLM_0 kLM_0 (by decide) rfl dX10_keep_129 ?_
    refine r_iload_n (pc := 132) 2 dX10_keep_132 rfl rfl ?_
    refine r_iconst (pc := 133) dX10_keep_133 ci_1 ?_
    refine inb_k h (fun b1 h => ?_)
    refine r_zast (pc := 134) (i := 27) (v2.toNatClampNeg) (1) rfl rfl nLM_27 kLM_27 lLM_27 b1 dX10_keep_134 ?_
    refine g_bm h (fun m1 em1 h => ?_)
    refine r_aload_n (pc := 135) 0 dX10_keep_135 rfl rfl ?_
    refine r_iload_n (pc := 136) 2 dX10_keep_136 rfl rfl ?_
    refine r_aload_n (pc := 137) 0 dX10_keep_137 rfl rfl ?_
    refine r_getR (pc := 138) (i := 0) (j := 5) fdRX10_22 nLM_0 kLM_0 (by decide) rfl dX10_keep_138 ?_
    refine r_iconst (pc := 141) dX10_keep_141 ci_5 ?_
    refine r_iald (pc := 142) (i := 5) (5) (by decide) nLM_5 kLM_5 lLM_5 (by decide) dX10_keep_142 ?_
    refine r_ldcw (pc := 143) w_1095 dX10_keep_143 ?_
    refine bo_k h (fun z1 hz1 h => ?_)
    refine r_callV (pc := 146) (i := 0) (As := [.int v2, .int (m1 5 5), .int 100000000]) (rest := []) lkRX10_257 (ceX10_worked _ _ m1 v2 (m1 5 5) 100000000 hz1) nLM_0 kLM_0 (by decide) rfl ⟨Nat.le_of_ble_eq_true rfl, Nat.le_of_ble_eq_true rfl⟩ rfl rfl (Nat.le_of_ble_eq_true rfl) dX10_keep_146 rfl ?_
    refine r_istore_n (pc := 149) (lv' := [(3, .int z1.1), (0, .ref (xa E 0)), (1, .int v1), (2, .int v2)]) dX10_keep_149 rfl (Nat.le_of_ble_eq_true rfl) rfl ?_
    refine r_iinc (pc := 150) (v := v1 + 1) (lv' := [(1, .int (v1 + 1)), (3, .int z1.1), (0, .ref (xa E 0)), (2, .int v2)]) 2 dX10_keep_150 rfl (by rw [ci_1]) (Nat.le_of_ble_eq_true rfl) rfl ?_
    refine r_goto (pc := 153) 25 dX10_keep_153 (by decide) ?_
    refine r_sub [2, 0] rfl ?_
    exact hc25 z1.2 (v1 + 1) h
  · exact r_vret (pc := 127) rfl dX10_keep_127 (Option.some.inj h)
def fX10_keep_39 (c25 : Mem → Int32 → Option Mem) : Nat → Mem → Int32 → Int32 → Int32 → Option Mem
  | 0, _, _, _, _ => none
  | n + 1, σ, v1, v2, v3 =>
    if σ 0 1 ≤ v3 then
      (fX10_keep_123 c25 σ v1 v2)
    else
      (if inb v3 10 = true then
      (if σ 2 v3.toNatClampNeg ≤ 0 then
        (fX10_keep_84 c25 (fun σ_ v1_ v2_ v3_ => fX10_keep_39 c25 n σ_ v1_ v2_ v3_) σ v1 v2 v3)
      else
        (if inb v3 10 = true then
        (if σ 5 5 ≤ σ 2 v3.toNatClampNeg then
          (fX10_keep_84 c25 (fun σ_ v1_ v2_ v3_ => fX10_keep_39 c25 n σ_ v1_ v2_ v3_) σ v1 v2 v3)
        else
          (if inb v3 10 = true then
          (if σ 27 v3.toNatClampNeg = 0 then
            (fX10_keep_85 c25 (fun σ_ v1_ v2_ v3_ => fX10_keep_39 c25 n σ_ v1_ v2_ v3_) σ v1 v2 v3 1)
          else
            (fX10_keep_84 c25 (fun σ_ v1_ v2_ v3_ => fX10_keep_39 c25 n σ_ v1_ v2_ v3_) σ v1 v2 v3))
          else none))
        else none))
      else none)
set_option maxHeartbeats 4000000 in
set_option maxRecDepth 20000 in
theorem gX10_keep_39 (E : XE) (c25 : Mem → Int32 → Option Mem) {r : Mem} (hc25 : ∀ (σ : Mem) (v1 : Int32), c25 σ v1 = some r → G E LM qX10_keep σ 25 [(0, .ref (xa E 0)), (1, .int v1)] [] (none, r)) : ∀ (n : Nat) (σ : Mem) (v1 : Int32) (v2 : Int32) (v3 : Int32), fX10_keep_39 c25 n σ v1 v2 v3 = some r → G E LM qX10_keep σ 39 [(0, .ref (xa E 0)), (1, .int v1), (2, .int v2), (3, .int v3)] [] (none, r) := by
  intro n
  induction n with
  | zero => intro σ v1 v2 v3 h; cases h
  | succ n ih =>
    intro σ v1 v2 v3 h
    unfold fX10_keep_39 at h
    refine r_iload_n (pc := 39) 3 dX10_keep_39 rfl rfl ?_
    refine r_aload_n (pc := 40) 0 dX10_keep_40 rfl rfl ?_
    refine r_getI (pc := 41) (i := 0) fdRX10_96 nLM_0 kLM_0 (by decide) dX10_keep_41 ?_
    refine r_icmp_ge (pc := 44) 123 dX10_keep_44 (by decide) h (fun c1 h => ?_) (fun c1 h => ?_)
    · refine r_sub [0, 1, 2] rfl ?_
      exact gX10_keep_123 E c25 hc25 σ v1 v2 h
    · refine r_aload_n (pc := 47) 0 dX10_keep_47 rfl rfl ?_
      refine r_getR (pc := 48) (i := 0) (j := 2) fdRX10_13 nLM_0 kLM_0 (by decide) rfl dX10_keep_48 ?_
      refine r_iload_n (pc := 51) 3 dX10_keep_51 rfl rfl ?_
      refine inb_k h (fun b1 h => ?_)
      refine r_iald (pc := 52) (i := 2) (v3.toNatClampNeg) rfl nLM_2 kLM_2 lLM_2 b1 dX10_keep_52 ?_
      refine r_if_le (pc := 53) 84 dX10_keep_53 (by decide) h (fun c2 h => ?_) (fun c2 h => ?_)
      · exact gX10_keep_84 E c25 (fun σ_ v1_ v2_ v3_ => fX10_keep_39 c25 n σ_ v1_ v2_ v3_) hc25 ih σ v1 v2 v3 h
      · refine r_aload_n (pc := 56) 0 dX10_keep_56 rfl rfl ?_
        refine r_getR (pc := 57) (i := 0) (j := 2) fdRX10_13 nLM_0 kLM_0 (by decide) rfl dX10_keep_57 ?_
        refine r_iload_n (pc := 60) 3 dX10_keep_60 rfl rfl ?_
        refine inb_k h (fun b2 h => ?_)
        refine r_iald (pc := 61) (i := 2) (v3.toNatClampNeg) rfl nLM_2 kLM_2 lLM_2 b2 dX10_keep_61 ?_
        refine r_aload_n (pc := 62) 0 dX10_keep_62 rfl rfl ?_
        refine r_getR (pc := 63) (i := 0) (j := 5) fdRX10_22 nLM_0 kLM_0 (by decide) rfl dX10_keep_63 ?_
        refine r_iconst (pc := 66) dX10_keep_66 ci_5 ?_
        refine r_iald (pc := 67) (i := 5) (5) (by decide) nLM_5 kLM_5 lLM_5 (by decide) dX10_keep_67 ?_
        refine r_icmp_ge (pc := 68) 84 dX10_keep_68 (by decide) h (fun c3 h => ?_) (fun c3 h => ?_)
        · exact gX10_keep_84 E c25 (fun σ_ v1_ v2_ v3_ => fX10_keep_39 c25 n σ_ v1_ v2_ v3_) hc25 ih σ v1 v2 v3 h
        · refine r_aload_n (pc := 71) 0 dX10_keep_71 rfl rfl ?_
          refine r_getR (pc := 72) (i := 0) (j := 27) fdRX10_89 nLM_0 kLM_0 (by decide) rfl dX10_keep_72 ?_
          refine r_iload_n (pc := 75) 3 dX10_keep_75 rfl rfl ?_
          refine inb_k h (fun b3 h => ?_)
          refine r_zald (pc := 76) (i := 27) (v3.toNatClampNeg) rfl nLM_27 kLM_27 lLM_27 b3 dX10_keep_76 ?_
          refine r_if_ne (pc := 77) 84 dX10_keep_77 (by decide) h (fun c4 h => ?_) (fun c4 h => ?_)
          · refine r_iconst (pc := 80) dX10_keep_80 ci_1 ?_
            refine r_goto (pc := 81) 85 dX10_keep_81 (by decide) ?_
            exact gX10_keep_85 E c25 (fun σ_ v1_ v2_ v3_ => fX10_keep_39 c25 n σ_ v1_ v2_ v3_) hc25 ih σ v1 v2 v3 1 h
          · exact gX10_keep_84 E c25 (fun σ_ v1_ v2_ v3_ => fX10_keep_39 c25 n σ_ v1_ v2_ v3_) hc25 ih σ v1 v2 v3 h
def fX10_keep_25  : Nat → Mem → Int32 → Option Mem
  | 0, _, _ => none
  | n + 1, σ, v1 =>
    if σ 5 4 ≤ v1 then
      (some σ)
    else
      (fX10_keep_39 (fun σ_ v1_ => fX10_keep_25 n σ_ v1_) 300 σ v1 (-1) 0)
set_option maxHeartbeats 4000000 in
set_option maxRecDepth 20000 in
theorem gX10_keep_25 (E : XE)  {r : Mem}  : ∀ (n : Nat) (σ : Mem) (v1 : Int32), fX10_keep_25 n σ v1 = some r → G E LM qX10_keep σ 25 [(0, .ref (xa E 0)), (1, .int v1)] [] (none, r) := by
  intro n
  induction n with
  | zero => intro σ v1 h; cases h
  | succ n ih =>
    intro σ v1 h
    unfold fX10_keep_25 at h
    refine r_iload_n (pc := 25) 1 dX10_keep_25 rfl rfl ?_
    refine r_aload_n (pc := 26) 0 dX10_keep_26 rfl rfl ?_
    refine r_getR (pc := 27) (i := 0) (j := 5) fdRX10_22 nLM_0 kLM_0 (by decide) rfl dX10_keep_27 ?_
    refine r_iconst (pc := 30) dX10_keep_30 ci_4 ?_
    refine r_iald (pc := 31) (i := 5) (4) (by decide) nLM_5 kLM_5 lLM_5 (by decide) dX10_keep_31 ?_
    refine r_icmp_ge (pc := 32) 156 dX10_keep_32 (by decide) h (fun c1 h => ?_) (fun c1 h => ?_)
    · exact r_vret (pc := 156) rfl dX10_keep_156 (Option.some.inj h)
    · refine r_iconst (pc := 35) dX10_keep_35 ci_m1 ?_
      refine r_istore_n (pc := 36) (lv' := [(2, .int ((-1))), (0, .ref (xa E 0)), (1, .int v1)]) dX10_keep_36 rfl (Nat.le_of_ble_eq_true rfl) rfl ?_
      refine r_iconst (pc := 37) dX10_keep_37 ci_0 ?_
      refine r_istore_n (pc := 38) (lv' := [(3, .int 0), (2, .int ((-1))), (0, .ref (xa E 0)), (1, .int v1)]) dX10_keep_38 rfl (Nat.le_of_ble_eq_true rfl) rfl ?_
      refine r_sub [2, 3, 1, 0] rfl ?_
      exact gX10_keep_39 E (fun σ_ v1_ => fX10_keep_25 n σ_ v1_) ih 300 σ v1 (-1) 0 h
def fX10_keep_2  : Nat → Mem → Int32 → Option Mem
  | 0, _, _ => none
  | n + 1, σ, v1 =>
    if σ 0 1 ≤ v1 then
      (fX10_keep_25 300 σ 0)
    else
      (if inb v1 10 = true then
      (bm (mset σ 27 v1.toNatClampNeg 0) (fun m1 =>
      fX10_keep_2 n m1 (v1 + 1)))
      else none)
set_option maxHeartbeats 4000000 in
set_option maxRecDepth 20000 in
theorem gX10_keep_2 (E : XE)  {r : Mem}  : ∀ (n : Nat) (σ : Mem) (v1 : Int32), fX10_keep_2 n σ v1 = some r → G E LM qX10_keep σ 2 [(0, .ref (xa E 0)), (1, .int v1)] [] (none, r) := by
  intro n
  induction n with
  | zero => intro σ v1 h; cases h
  | succ n ih =>
    intro σ v1 h
    unfold fX10_keep_2 at h
    refine r_iload_n (pc := 2) 1 dX10_keep_2 rfl rfl ?_
    refine r_aload_n (pc := 3) 0 dX10_keep_3 rfl rfl ?_
    refine r_getI (pc := 4) (i := 0) fdRX10_96 nLM_0 kLM_0 (by decide) dX10_keep_4 ?_
    refine r_icmp_ge (pc := 7) 23 dX10_keep_7 (by decide) h (fun c1 h => ?_) (fun c1 h => ?_)
    · refine r_iconst (pc := 23) dX10_keep_23 ci_0 ?_
      refine r_istore_n (pc := 24) (lv' := [(1, .int 0), (0, .ref (xa E 0))]) dX10_keep_24 rfl (Nat.le_of_ble_eq_true rfl) rfl ?_
      refine r_sub [1, 0] rfl ?_
      exact gX10_keep_25 E 300 σ 0 h
    · refine r_aload_n (pc := 10) 0 dX10_keep_10 rfl rfl ?_
      refine r_getR (pc := 11) (i := 0) (j := 27) fdRX10_89 nLM_0 kLM_0 (by decide) rfl dX10_keep_11 ?_
      refine r_iload_n (pc := 14) 1 dX10_keep_14 rfl rfl ?_
      refine r_iconst (pc := 15) dX10_keep_15 ci_0 ?_
      refine inb_k h (fun b1 h => ?_)
      refine r_zast (pc := 16) (i := 27) (v1.toNatClampNeg) (0) rfl rfl nLM_27 kLM_27 lLM_27 b1 dX10_keep_16 ?_
      refine g_bm h (fun m1 em1 h => ?_)
      refine r_iinc (pc := 17) (v := v1 + 1) (lv' := [(1, .int (v1 + 1)), (0, .ref (xa E 0))]) 1 dX10_keep_17 rfl (by rw [ci_1]) (Nat.le_of_ble_eq_true rfl) rfl ?_
      refine r_goto (pc := 20) 2 dX10_keep_20 (by decide) ?_
      refine r_sub [1, 0] rfl ?_
      exact ih m1 (v1 + 1) h
def fX10_keep (σ : Mem)  : Option Mem :=
  fX10_keep_2 300 σ 0
set_option maxHeartbeats 4000000 in
set_option maxRecDepth 20000 in
theorem gX10_keep (E : XE) {r : Mem} (σ : Mem)   (h : fX10_keep σ  = some r) : G E LM qX10_keep σ 0 [(0, .ref (xa E 0))] [] (none, r) := by
  unfold fX10_keep at h
  refine r_iconst (pc := 0) dX10_keep_0 ci_0 ?_
  refine r_istore_n (pc := 1) (lv' := [(1, .int 0), (0, .ref (xa E 0))]) dX10_keep_1 rfl (Nat.le_of_ble_eq_true rfl) rfl ?_
  refine r_sub [1, 0] rfl ?_
  exact gX10_keep_2 E 300 σ 0 h
theorem ceX10_keep (l : Launch) (d : SD) (σ : Mem)   {r : Mem} (h : fX10_keep σ  = some r) : Me l d LM yX10_keep qX10_keep σ [.ref (d.2.2.1 0)] (none, r) := me_of (avs := fun d => [.ref (d.2.2.1 0)]) (by decide) rfl (Nat.le_of_ble_eq_true rfl) (fun E => gX10_keep E σ   h)
def fX10_goOn_141 (c84 : Mem → Int32 → Option Mem) (σ : Mem) (v1 : Int32) : Option Mem :=
  if inb v1 20 = true then
  (bo (fX10_comes σ v1 (σ 15 v1.toNatClampNeg) 0) (fun z1 =>
  c84 z1 (v1 + 1)))
  else none
set_option maxHeartbeats 4000000 in
set_option maxRecDepth 20000 in
theorem gX10_goOn_141 (E : XE) (c84 : Mem → Int32 → Option Mem) {r : Mem} (hc84 : ∀ (σ : Mem) (v1 : Int32), c84 σ v1 = some r → G E LM qX10_goOn σ 84 [(0, .ref (xa E 0)), (1, .int v1)] [] (none, r)) (σ : Mem) (v1 : Int32)  (h : fX10_goOn_141 c84 σ v1 = some r) : G E LM qX10_goOn σ 141 [(0, .ref (xa E 0)), (1, .int v1)] [] (none, r) := by
  unfold fX10_goOn_141 at h
  refine r_aload_n (pc := 141) 0 dX10_goOn_141 rfl rfl ?_
  refine r_iload_n (pc := 142) 1 dX10_goOn_142 rfl rfl ?_
  refine r_aload_n (pc := 143) 0 dX10_goOn_143 rfl rfl ?_
  refine r_getR (pc := 144) (i := 0) (j := 15) fdRX10_53 nLM_0 kLM_0 (by decide) rfl dX10_goOn_144 ?_
  refine r_iload_n (pc := 147) 1 dX10_goOn_147 rfl rfl ?_
  refine inb_k h (fun b1 h => ?_)
  refine r_iald (pc := 148) (i := 15) (v1.toNatClampNeg) rfl nLM_15 kLM_15 lLM_15 b1 dX10_goOn_148 ?_
  refine r_iconst (pc := 149) dX10_goOn_149 ci_0 ?_
  refine bo_k h (fun z1 hz1 h => ?_)
  refine r_callV (pc := 150) (i := 0) (As := [.int v1, .int (σ 15 v1.toNatClampNeg), .int 0]) (rest := []) lkRX10_216 (ceX10_comes _ _ σ v1 (σ 15 v1.toNatClampNeg) 0 hz1) nLM_0 kLM_0 (by decide) rfl ⟨Nat.le_of_ble_eq_true rfl, Nat.le_of_ble_eq_true rfl⟩ rfl rfl (Nat.le_of_ble_eq_true rfl) dX10_goOn_150 rfl ?_
  refine r_iinc (pc := 153) (v := v1 + 1) (lv' := [(1, .int (v1 + 1)), (0, .ref (xa E 0))]) 1 dX10_goOn_153 rfl (by rw [ci_1]) (Nat.le_of_ble_eq_true rfl) rfl ?_
  refine r_goto (pc := 156) 84 dX10_goOn_156 (by decide) ?_
  refine r_sub [1, 0] rfl ?_
  exact hc84 z1 (v1 + 1) h
def fX10_goOn_227 (c168 : Mem → Int32 → Int32 → Int32 → Int32 → Option Mem) (σ : Mem) (v1 : Int32) (v3 : Int32) (v4 : Int32) (t0 : Int32) : Option Mem :=
  if inb v4 10 = true then
  (bi (v3 + (σ 3 v4.toNatClampNeg)) (fun x1 =>
  c168 σ v1 t0 x1 (v4 + 1)))
  else none
set_option maxHeartbeats 4000000 in
set_option maxRecDepth 20000 in
theorem gX10_goOn_227 (E : XE) (c168 : Mem → Int32 → Int32 → Int32 → Int32 → Option Mem) {r : Mem} (hc168 : ∀ (σ : Mem) (v1 : Int32) (v2 : Int32) (v3 : Int32) (v4 : Int32), c168 σ v1 v2 v3 v4 = some r → G E LM qX10_goOn σ 168 [(0, .ref (xa E 0)), (1, .int v1), (2, .int v2), (3, .int v3), (4, .int v4)] [] (none, r)) (σ : Mem) (v1 : Int32) (v3 : Int32) (v4 : Int32) (t0 : Int32)  (h : fX10_goOn_227 c168 σ v1 v3 v4 t0 = some r) : G E LM qX10_goOn σ 227 [(0, .ref (xa E 0)), (1, .int v1), (3, .int v3), (4, .int v4)] [.int t0] (none, r) := by
  unfold fX10_goOn_227 at h
  refine r_istore_n (pc := 227) (lv' := [(2, .int t0), (0, .ref (xa E 0)), (1, .int v1), (3, .int v3), (4, .int v4)]) dX10_goOn_227 rfl (Nat.le_of_ble_eq_true rfl) rfl ?_
  refine r_iload_n (pc := 228) 3 dX10_goOn_228 rfl rfl ?_
  refine r_aload_n (pc := 229) 1 dX10_goOn_229 rfl rfl ?_
  refine r_getR (pc := 230) (i := 0) (j := 3) fdRX10_16 nLM_0 kLM_0 (by decide) rfl dX10_goOn_230 ?_
  refine r_iload (pc := 233) 4 dX10_goOn_233 rfl ?_
  refine inb_k h (fun b1 h => ?_)
  refine r_iald (pc := 235) (i := 3) (v4.toNatClampNeg) rfl nLM_3 kLM_3 lLM_3 b1 dX10_goOn_235 ?_
  refine r_iadd (pc := 236) dX10_goOn_236 ?_
  refine g_bi h (fun x1 ex1 h => ?_)
  refine r_istore_n (pc := 237) (lv' := [(3, .int x1), (2, .int t0), (0, .ref (xa E 0)), (1, .int v1), (4, .int v4)]) dX10_goOn_237 rfl (Nat.le_of_ble_eq_true rfl) rfl ?_
  refine r_iinc (pc := 238) (v := v4 + 1) (lv' := [(4, .int (v4 + 1)), (3, .int x1), (2, .int t0), (0, .ref (xa E 0)), (1, .int v1)]) 4 dX10_goOn_238 rfl (by rw [ci_1]) (Nat.le_of_ble_eq_true rfl) rfl ?_
  refine r_goto (pc := 241) 168 dX10_goOn_241 (by decide) ?_
  refine r_sub [3, 4, 2, 1, 0] rfl ?_
  exact hc168 σ v1 t0 x1 (v4 + 1) h
def fX10_goOn_222 (c168 : Mem → Int32 → Int32 → Int32 → Int32 → Option Mem) (σ : Mem) (v1 : Int32) (v3 : Int32) (v4 : Int32) : Option Mem :=
  fX10_goOn_227 c168 σ v1 v3 v4 1
set_option maxHeartbeats 4000000 in
set_option maxRecDepth 20000 in
theorem gX10_goOn_222 (E : XE) (c168 : Mem → Int32 → Int32 → Int32 → Int32 → Option Mem) {r : Mem} (hc168 : ∀ (σ : Mem) (v1 : Int32) (v2 : Int32) (v3 : Int32) (v4 : Int32), c168 σ v1 v2 v3 v4 = some r → G E LM qX10_goOn σ 168 [(0, .ref (xa E 0)), (1, .int v1), (2, .int v2), (3, .int v3), (4, .int v4)] [] (none, r)) (σ : Mem) (v1 : Int32) (v3 : Int32) (v4 : Int32)  (h : fX10_goOn_222 c168 σ v1 v3 v4 = some r) : G E LM qX10_goOn σ 222 [(0, .ref (xa E 0)), (1, .int v1), (3, .int v3), (4, .int v4)] [] (none, r) := by
  unfold fX10_goOn_222 at h
  refine r_iconst (pc := 222) dX10_goOn_222 ci_1 ?_
  refine r_goto (pc := 223) 227 dX10_goOn_223 (by decide) ?_
  exact gX10_goOn_227 E c168 hc168 σ v1 v3 v4 1 h
def fX10_goOn_226 (c168 : Mem → Int32 → Int32 → Int32 → Int32 → Option Mem) (σ : Mem) (v1 : Int32) (v3 : Int32) (v4 : Int32) : Option Mem :=
  fX10_goOn_227 c168 σ v1 v3 v4 0
set_option maxHeartbeats 4000000 in
set_option maxRecDepth 20000 in
theorem gX10_goOn_226 (E : XE) (c168 : Mem → Int32 → Int32 → Int32 → Int32 → Option Mem) {r : Mem} (hc168 : ∀ (σ : Mem) (v1 : Int32) (v2 : Int32) (v3 : Int32) (v4 : Int32), c168 σ v1 v2 v3 v4 = some r → G E LM qX10_goOn σ 168 [(0, .ref (xa E 0)), (1, .int v1), (2, .int v2), (3, .int v3), (4, .int v4)] [] (none, r)) (σ : Mem) (v1 : Int32) (v3 : Int32) (v4 : Int32)  (h : fX10_goOn_226 c168 σ v1 v3 v4 = some r) : G E LM qX10_goOn σ 226 [(0, .ref (xa E 0)), (1, .int v1), (3, .int v3), (4, .int v4)] [] (none, r) := by
  unfold fX10_goOn_226 at h
  refine r_iconst (pc := 226) dX10_goOn_226 ci_0 ?_
  exact gX10_goOn_227 E c168 hc168 σ v1 v3 v4 0 h
def fX10_goOn_196 (c168 : Mem → Int32 → Int32 → Int32 → Int32 → Option Mem) (σ : Mem) (v2 : Int32) (v3 : Int32) (v4 : Int32) (t0 : Int32) : Option Mem :=
  if v2 = 0 then
    (if inb v4 10 = true then
    (if σ 1 v4.toNatClampNeg = 3 then
      (if inb v4 10 = true then
      (if σ 2 v4.toNatClampNeg ≤ 0 then
        (fX10_goOn_226 c168 σ t0 v3 v4)
      else
        (fX10_goOn_222 c168 σ t0 v3 v4))
      else none)
    else
      (fX10_goOn_226 c168 σ t0 v3 v4))
    else none)
  else
    (fX10_goOn_222 c168 σ t0 v3 v4)
set_option maxHeartbeats 4000000 in
set_option maxRecDepth 20000 in
theorem gX10_goOn_196 (E : XE) (c168 : Mem → Int32 → Int32 → Int32 → Int32 → Option Mem) {r : Mem} (hc168 : ∀ (σ : Mem) (v1 : Int32) (v2 : Int32) (v3 : Int32) (v4 : Int32), c168 σ v1 v2 v3 v4 = some r → G E LM qX10_goOn σ 168 [(0, .ref (xa E 0)), (1, .int v1), (2, .int v2), (3, .int v3), (4, .int v4)] [] (none, r)) (σ : Mem) (v2 : Int32) (v3 : Int32) (v4 : Int32) (t0 : Int32)  (h : fX10_goOn_196 c168 σ v2 v3 v4 t0 = some r) : G E LM qX10_goOn σ 196 [(0, .ref (xa E 0)), (2, .int v2), (3, .int v3), (4, .int v4)] [.int t0] (none, r) := by
  unfold fX10_goOn_196 at h
  refine r_istore_n (pc := 196) (lv' := [(1, .int t0), (0, .ref (xa E 0)), (2, .int v2), (3, .int v3), (4, .int v4)]) dX10_goOn_196 rfl (Nat.le_of_ble_eq_true rfl) rfl ?_
  refine r_iload_n (pc := 197) 2 dX10_goOn_197 rfl rfl ?_
  refine r_if_ne (pc := 198) 222 dX10_goOn_198 (by decide) h (fun c1 h => ?_) (fun c1 h => ?_)
  · refine r_aload_n (pc := 201) 1 dX10_goOn_201 rfl rfl ?_
    refine r_getR (pc := 202) (i := 0) (j := 1) fdRX10_7 nLM_0 kLM_0 (by decide) rfl dX10_goOn_202 ?_
    refine r_iload (pc := 205) 4 dX10_goOn_205 rfl ?_
    refine inb_k h (fun b1 h => ?_)
    refine r_iald (pc := 207) (i := 1) (v4.toNatClampNeg) rfl nLM_1 kLM_1 lLM_1 b1 dX10_goOn_207 ?_
    refine r_iconst (pc := 208) dX10_goOn_208 ci_3 ?_
    refine r_icmp_ne (pc := 209) 226 dX10_goOn_209 (by decide) h (fun c2 h => ?_) (fun c2 h => ?_)
    · refine r_aload_n (pc := 212) 1 dX10_goOn_212 rfl rfl ?_
      refine r_getR (pc := 213) (i := 0) (j := 2) fdRX10_13 nLM_0 kLM_0 (by decide) rfl dX10_goOn_213 ?_
      refine r_iload (pc := 216) 4 dX10_goOn_216 rfl ?_
      refine inb_k h (fun b2 h => ?_)
      refine r_iald (pc := 218) (i := 2) (v4.toNatClampNeg) rfl nLM_2 kLM_2 lLM_2 b2 dX10_goOn_218 ?_
      refine r_if_le (pc := 219) 226 dX10_goOn_219 (by decide) h (fun c3 h => ?_) (fun c3 h => ?_)
      · refine r_sub [1, 0, 3, 4] rfl ?_
        exact gX10_goOn_226 E c168 hc168 σ t0 v3 v4 h
      · refine r_sub [1, 0, 3, 4] rfl ?_
        exact gX10_goOn_222 E c168 hc168 σ t0 v3 v4 h
    · refine r_sub [1, 0, 3, 4] rfl ?_
      exact gX10_goOn_226 E c168 hc168 σ t0 v3 v4 h
  · refine r_sub [1, 0, 3, 4] rfl ?_
    exact gX10_goOn_222 E c168 hc168 σ t0 v3 v4 h
def fX10_goOn_191 (c168 : Mem → Int32 → Int32 → Int32 → Int32 → Option Mem) (σ : Mem) (v2 : Int32) (v3 : Int32) (v4 : Int32) : Option Mem :=
  fX10_goOn_196 c168 σ v2 v3 v4 1
set_option maxHeartbeats 4000000 in
set_option maxRecDepth 20000 in
theorem gX10_goOn_191 (E : XE) (c168 : Mem → Int32 → Int32 → Int32 → Int32 → Option Mem) {r : Mem} (hc168 : ∀ (σ : Mem) (v1 : Int32) (v2 : Int32) (v3 : Int32) (v4 : Int32), c168 σ v1 v2 v3 v4 = some r → G E LM qX10_goOn σ 168 [(0, .ref (xa E 0)), (1, .int v1), (2, .int v2), (3, .int v3), (4, .int v4)] [] (none, r)) (σ : Mem) (v2 : Int32) (v3 : Int32) (v4 : Int32)  (h : fX10_goOn_191 c168 σ v2 v3 v4 = some r) : G E LM qX10_goOn σ 191 [(0, .ref (xa E 0)), (2, .int v2), (3, .int v3), (4, .int v4)] [] (none, r) := by
  unfold fX10_goOn_191 at h
  refine r_iconst (pc := 191) dX10_goOn_191 ci_1 ?_
  refine r_goto (pc := 192) 196 dX10_goOn_192 (by decide) ?_
  exact gX10_goOn_196 E c168 hc168 σ v2 v3 v4 1 h
def fX10_goOn_414  (σ : Mem)  : Option Mem :=
  bo (fX10_keep σ) (fun z1 =>
  some z1)
set_option maxHeartbeats 4000000 in
set_option maxRecDepth 20000 in
theorem gX10_goOn_414 (E : XE)  {r : Mem}  (σ : Mem)   (h : fX10_goOn_414 σ = some r) : G E LM qX10_goOn σ 414 [(0, .ref (xa E 0))] [] (none, r) := by
  unfold fX10_goOn_414 at h
  refine r_aload_n (pc := 414) 0 dX10_goOn_414 rfl rfl ?_
  refine bo_k h (fun z1 hz1 h => ?_)
  refine r_callV (pc := 415) (i := 0) (As := []) (rest := []) lkRX10_262 (ceX10_keep _ _ σ hz1) nLM_0 kLM_0 (by decide) rfl ⟨Nat.le_of_ble_eq_true rfl, Nat.le_of_ble_eq_true rfl⟩ rfl rfl (Nat.le_of_ble_eq_true rfl) dX10_goOn_415 rfl ?_
  exact r_vret (pc := 418) rfl dX10_goOn_418 (Option.some.inj h)
def fX10_goOn_357  : Nat → Mem → Int32 → Option Mem
  | 0, _, _ => none
  | n + 1, σ, v5 =>
    if σ 0 1 ≤ v5 then
      (fX10_goOn_414 σ)
    else
      (if inb v5 10 = true then
      (if inb v5 10 = true then
      (bm (mset σ 2 v5.toNatClampNeg (σ 22 v5.toNatClampNeg)) (fun m1 =>
      if inb v5 10 = true then
      (if inb v5 10 = true then
      (bm (mset m1 3 v5.toNatClampNeg (m1 23 v5.toNatClampNeg)) (fun m2 =>
      if inb v5 10 = true then
      (if inb v5 10 = true then
      (bm (mset m2 4 v5.toNatClampNeg (m2 24 v5.toNatClampNeg)) (fun m3 =>
      fX10_goOn_357 n m3 (v5 + 1)))
      else none)
      else none))
      else none)
      else none))
      else none)
      else none)
set_option maxHeartbeats 4000000 in
set_option maxRecDepth 20000 in
theorem gX10_goOn_357 (E : XE)  {r : Mem}  : ∀ (n : Nat) (σ : Mem) (v5 : Int32), fX10_goOn_357 n σ v5 = some r → G E LM qX10_goOn σ 357 [(0, .ref (xa E 0)), (5, .int v5)] [] (none, r) := by
  intro n
  induction n with
  | zero => intro σ v5 h; cases h
  | succ n ih =>
    intro σ v5 h
    unfold fX10_goOn_357 at h
    refine r_iload (pc := 357) 1 dX10_goOn_357 rfl ?_
    refine r_aload_n (pc := 359) 0 dX10_goOn_359 rfl rfl ?_
    refine r_getI (pc := 360) (i := 0) fdRX10_96 nLM_0 kLM_0 (by decide) dX10_goOn_360 ?_
    refine r_icmp_ge (pc := 363) 414 dX10_goOn_363 (by decide) h (fun c1 h => ?_) (fun c1 h => ?_)
    · refine r_sub [0] rfl ?_
      exact gX10_goOn_414 E σ h
    · refine r_aload_n (pc := 366) 0 dX10_goOn_366 rfl rfl ?_
      refine r_getR (pc := 367) (i := 0) (j := 2) fdRX10_13 nLM_0 kLM_0 (by decide) rfl dX10_goOn_367 ?_
      refine r_iload (pc := 370) 1 dX10_goOn_370 rfl ?_
      refine r_aload_n (pc := 372) 0 dX10_goOn_372 rfl rfl ?_
      refine r_getR (pc := 373) (i := 0) (j := 22) fdRX10_74 nLM_0 kLM_0 (by decide) rfl dX10_goOn_373 ?_
      refine r_iload (pc := 376) 1 dX10_goOn_376 rfl ?_
      refine inb_k h (fun b1 h => ?_)
      refine r_iald (pc := 378) (i := 22) (v5.toNatClampNeg) rfl nLM_22 kLM_22 lLM_22 b1 dX10_goOn_378 ?_
      refine inb_k h (fun b2 h => ?_)
      refine r_iast (pc := 379) (i := 2) (v5.toNatClampNeg) (σ 22 v5.toNatClampNeg) rfl rfl nLM_2 kLM_2 lLM_2 b2 dX10_goOn_379 ?_
      refine g_bm h (fun m1 em1 h => ?_)
      refine r_aload_n (pc := 380) 0 dX10_goOn_380 rfl rfl ?_
      refine r_getR (pc := 381) (i := 0) (j := 3) fdRX10_16 nLM_0 kLM_0 (by decide) rfl dX10_goOn_381 ?_
      refine r_iload (pc := 384) 1 dX10_goOn_384 rfl ?_
      refine r_aload_n (pc := 386) 0 dX10_goOn_386 rfl rfl ?_
      refine r_getR (pc := 387) (i := 0) (j := 23) fdRX10_77 nLM_0 kLM_0 (by decide) rfl dX10_goOn_387 ?_
      refine r_iload (pc := 390) 1 dX10_goOn_390 rfl ?_
      refine inb_k h (fun b3 h => ?_)
      refine r_iald (pc := 392) (i := 23) (v5.toNatClampNeg) rfl nLM_23 kLM_23 lLM_23 b3 dX10_goOn_392 ?_
      refine inb_k h (fun b4 h => ?_)
      refine r_iast (pc := 393) (i := 3) (v5.toNatClampNeg) (m1 23 v5.toNatClampNeg) rfl rfl nLM_3 kLM_3 lLM_3 b4 dX10_goOn_393 ?_
      refine g_bm h (fun m2 em2 h => ?_)
      refine r_aload_n (pc := 394) 0 dX10_goOn_394 rfl rfl ?_
      refine r_getR (pc := 395) (i := 0) (j := 4) fdRX10_19 nLM_0 kLM_0 (by decide) rfl dX10_goOn_395 ?_
      refine r_iload (pc := 398) 1 dX10_goOn_398 rfl ?_
      refine r_aload_n (pc := 400) 0 dX10_goOn_400 rfl rfl ?_
      refine r_getR (pc := 401) (i := 0) (j := 24) fdRX10_80 nLM_0 kLM_0 (by decide) rfl dX10_goOn_401 ?_
      refine r_iload (pc := 404) 1 dX10_goOn_404 rfl ?_
      refine inb_k h (fun b5 h => ?_)
      refine r_iald (pc := 406) (i := 24) (v5.toNatClampNeg) rfl nLM_24 kLM_24 lLM_24 b5 dX10_goOn_406 ?_
      refine inb_k h (fun b6 h => ?_)
      refine r_iast (pc := 407) (i := 4) (v5.toNatClampNeg) (m2 24 v5.toNatClampNeg) rfl rfl nLM_4 kLM_4 lLM_4 b6 dX10_goOn_407 ?_
      refine g_bm h (fun m3 em3 h => ?_)
      refine r_iinc (pc := 408) (v := v5 + 1) (lv' := [(5, .int (v5 + 1)), (0, .ref (xa E 0))]) 1 dX10_goOn_408 rfl (by rw [ci_1]) (Nat.le_of_ble_eq_true rfl) rfl ?_
      refine r_goto (pc := 411) 357 dX10_goOn_411 (by decide) ?_
      refine r_sub [1, 0] rfl ?_
      exact ih m3 (v5 + 1) h
def fX10_goOn_313  (σ : Mem) (v3 : Int32) (t0 : Int32) (t1 : Int32) : Option Mem :=
  bi (t0 + t1) (fun x1 =>
  bo (fX10_comes σ 0 x1 1) (fun z1 =>
  bo (fX10_comes z1 0 ((z1 5 3) * v3) 2) (fun z2 =>
  bo (fX10_asItIs z2) (fun z3 =>
  bo (fX10_findLosses z3 (z3 0 0)) (fun z4 =>
  bo (fX10_lose z4) (fun z5 =>
  fX10_goOn_357 300 z5 0))))))
set_option maxHeartbeats 4000000 in
set_option maxRecDepth 20000 in
theorem gX10_goOn_313 (E : XE)  {r : Mem}  (σ : Mem) (v3 : Int32) (t0 : Int32) (t1 : Int32)  (h : fX10_goOn_313 σ v3 t0 t1 = some r) : G E LM qX10_goOn σ 313 [(0, .ref (xa E 0)), (3, .int v3)] [.int t1, .int t0] (none, r) := by
  unfold fX10_goOn_313 at h
  refine r_iadd (pc := 313) dX10_goOn_313 ?_
  refine g_bi h (fun x1 ex1 h => ?_)
  refine r_istore (pc := 314) (lv' := [(4, .int x1), (0, .ref (xa E 0)), (3, .int v3)]) dX10_goOn_314 (Nat.le_of_ble_eq_true rfl) rfl ?_
  refine r_aload_n (pc := 316) 1 dX10_goOn_316 rfl rfl ?_
  refine r_iconst (pc := 317) dX10_goOn_317 ci_0 ?_
  refine r_iload (pc := 318) 0 dX10_goOn_318 rfl ?_
  refine r_iconst (pc := 320) dX10_goOn_320 ci_1 ?_
  refine bo_k h (fun z1 hz1 h => ?_)
  refine r_callV (pc := 321) (i := 0) (As := [.int 0, .int x1, .int 1]) (rest := []) lkRX10_216 (ceX10_comes _ _ σ 0 x1 1 hz1) nLM_0 kLM_0 (by decide) rfl ⟨Nat.le_of_ble_eq_true rfl, Nat.le_of_ble_eq_true rfl⟩ rfl rfl (Nat.le_of_ble_eq_true rfl) dX10_goOn_321 rfl ?_
  refine r_aload_n (pc := 324) 1 dX10_goOn_324 rfl rfl ?_
  refine r_iconst (pc := 325) dX10_goOn_325 ci_0 ?_
  refine r_aload_n (pc := 326) 1 dX10_goOn_326 rfl rfl ?_
  refine r_getR (pc := 327) (i := 0) (j := 5) fdRX10_22 nLM_0 kLM_0 (by decide) rfl dX10_goOn_327 ?_
  refine r_iconst (pc := 330) dX10_goOn_330 ci_3 ?_
  refine r_iald (pc := 331) (i := 5) (3) (by decide) nLM_5 kLM_5 lLM_5 (by decide) dX10_goOn_331 ?_
  refine r_iload_n (pc := 332) 2 dX10_goOn_332 rfl rfl ?_
  refine r_imul (pc := 333) dX10_goOn_333 ?_
  refine r_iconst (pc := 334) dX10_goOn_334 ci_2 ?_
  refine bo_k h (fun z2 hz2 h => ?_)
  refine r_callV (pc := 335) (i := 0) (As := [.int 0, .int ((z1 5 3) * v3), .int 2]) (rest := []) lkRX10_216 (ceX10_comes _ _ z1 0 ((z1 5 3) * v3) 2 hz2) nLM_0 kLM_0 (by decide) rfl ⟨Nat.le_of_ble_eq_true rfl, Nat.le_of_ble_eq_true rfl⟩ rfl rfl (Nat.le_of_ble_eq_true rfl) dX10_goOn_335 rfl ?_
  refine r_aload_n (pc := 338) 1 dX10_goOn_338 rfl rfl ?_
  refine bo_k h (fun z3 hz3 h => ?_)
  refine r_callV (pc := 339) (i := 0) (As := []) (rest := []) lkRX10_117 (ceX10_asItIs _ _ z2 hz3) nLM_0 kLM_0 (by decide) rfl ⟨Nat.le_of_ble_eq_true rfl, Nat.le_of_ble_eq_true rfl⟩ rfl rfl (Nat.le_of_ble_eq_true rfl) dX10_goOn_339 rfl ?_
  refine r_aload_n (pc := 342) 1 dX10_goOn_342 rfl rfl ?_
  refine r_aload_n (pc := 343) 1 dX10_goOn_343 rfl rfl ?_
  refine r_getI (pc := 344) (i := 0) fdRX10_103 nLM_0 kLM_0 (by decide) dX10_goOn_344 ?_
  refine bo_k h (fun z4 hz4 h => ?_)
  refine r_callV (pc := 347) (i := 0) (As := [.int (z3 0 0)]) (rest := []) lkRX10_121 (ceX10_findLosses _ _ z3 (z3 0 0) hz4) nLM_0 kLM_0 (by decide) rfl ⟨Nat.le_of_ble_eq_true rfl, Nat.le_of_ble_eq_true rfl⟩ rfl rfl (Nat.le_of_ble_eq_true rfl) dX10_goOn_347 rfl ?_
  refine r_aload_n (pc := 350) 1 dX10_goOn_350 rfl rfl ?_
  refine bo_k h (fun z5 hz5 h => ?_)
  refine r_callV (pc := 351) (i := 0) (As := []) (rest := []) lkRX10_125 (ceX10_lose _ _ z4 hz5) nLM_0 kLM_0 (by decide) rfl ⟨Nat.le_of_ble_eq_true rfl, Nat.le_of_ble_eq_true rfl⟩ rfl rfl (Nat.le_of_ble_eq_true rfl) dX10_goOn_351 rfl ?_
  refine r_iconst (pc := 354) dX10_goOn_354 ci_0 ?_
  refine r_istore (pc := 355) (lv' := [(5, .int 0), (4, .int x1), (0, .ref (xa E 0)), (3, .int v3)]) dX10_goOn_355 (Nat.le_of_ble_eq_true rfl) rfl ?_
  refine r_sub [2, 0] rfl ?_
  exact gX10_goOn_357 E 300 z5 0 h
def fX10_goOn_285  (σ : Mem) (v2 : Int32) (v3 : Int32) (t0 : Int32) : Option Mem :=
  if v2 = 0 then
    (fX10_goOn_313 σ v3 t0 0)
  else
    (bo (fX10_numberOf σ 3 (σ 0 0)) (fun z1 =>
    fX10_goOn_313 σ v3 t0 ((σ 5 2) * z1)))
set_option maxHeartbeats 4000000 in
set_option maxRecDepth 20000 in
theorem gX10_goOn_285 (E : XE)  {r : Mem}  (σ : Mem) (v2 : Int32) (v3 : Int32) (t0 : Int32)  (h : fX10_goOn_285 σ v2 v3 t0 = some r) : G E LM qX10_goOn σ 285 [(0, .ref (xa E 0)), (2, .int v2), (3, .int v3)] [.int t0] (none, r) := by
  unfold fX10_goOn_285 at h
  refine r_istore (pc := 285) (lv' := [(4, .int t0), (0, .ref (xa E 0)), (2, .int v2), (3, .int v3)]) dX10_goOn_285 (Nat.le_of_ble_eq_true rfl) rfl ?_
  refine r_iload (pc := 287) 0 dX10_goOn_287 rfl ?_
  refine r_iload_n (pc := 289) 2 dX10_goOn_289 rfl rfl ?_
  refine r_if_eq (pc := 290) 312 dX10_goOn_290 (by decide) h (fun c1 h => ?_) (fun c1 h => ?_)
  · refine r_iconst (pc := 312) dX10_goOn_312 ci_0 ?_
    refine r_sub [1, 3] rfl ?_
    exact gX10_goOn_313 E σ v3 t0 0 h
  · refine r_aload_n (pc := 293) 1 dX10_goOn_293 rfl rfl ?_
    refine r_getR (pc := 294) (i := 0) (j := 5) fdRX10_22 nLM_0 kLM_0 (by decide) rfl dX10_goOn_294 ?_
    refine r_iconst (pc := 297) dX10_goOn_297 ci_2 ?_
    refine r_iald (pc := 298) (i := 5) (2) (by decide) nLM_5 kLM_5 lLM_5 (by decide) dX10_goOn_298 ?_
    refine r_aload_n (pc := 299) 1 dX10_goOn_299 rfl rfl ?_
    refine r_iconst (pc := 300) dX10_goOn_300 ci_3 ?_
    refine r_aload_n (pc := 301) 1 dX10_goOn_301 rfl rfl ?_
    refine r_getI (pc := 302) (i := 0) fdRX10_103 nLM_0 kLM_0 (by decide) dX10_goOn_302 ?_
    refine bo_k h (fun z1 hz1 h => ?_)
    refine r_callV (pc := 305) (i := 0) (As := [.int 3, .int (σ 0 0)]) (rest := [.int (σ 5 2), .int t0]) lkRX10_113 (ceX10_numberOf _ _ σ 3 (σ 0 0) hz1) nLM_0 kLM_0 (by decide) rfl ⟨Nat.le_of_ble_eq_true rfl, Nat.le_of_ble_eq_true rfl⟩ rfl rfl (Nat.le_of_ble_eq_true rfl) dX10_goOn_305 rfl ?_
    refine r_imul (pc := 308) dX10_goOn_308 ?_
    refine r_goto (pc := 309) 313 dX10_goOn_309 (by decide) ?_
    refine r_sub [1, 3] rfl ?_
    exact gX10_goOn_313 E σ v3 t0 ((σ 5 2) * z1) h
def fX10_goOn_244  (σ : Mem) (v1 : Int32) (v2 : Int32) (v3 : Int32) : Option Mem :=
  if v1 = 0 then
    (bo (fX10_numberOf σ 1 (σ 0 0)) (fun z1 =>
    bo (fX10_numberOf σ 2 (σ 0 0)) (fun z2 =>
    fX10_goOn_285 σ v2 v3 (((σ 5 0) * z1) + ((σ 5 1) * z2)))))
  else
    (fX10_goOn_285 σ v2 v3 0)
set_option maxHeartbeats 4000000 in
set_option maxRecDepth 20000 in
theorem gX10_goOn_244 (E : XE)  {r : Mem}  (σ : Mem) (v1 : Int32) (v2 : Int32) (v3 : Int32)  (h : fX10_goOn_244 σ v1 v2 v3 = some r) : G E LM qX10_goOn σ 244 [(0, .ref (xa E 0)), (1, .int v1), (2, .int v2), (3, .int v3)] [] (none, r) := by
  unfold fX10_goOn_244 at h
  refine r_iload_n (pc := 244) 1 dX10_goOn_244 rfl rfl ?_
  refine r_if_eq (pc := 245) 252 dX10_goOn_245 (by decide) h (fun c1 h => ?_) (fun c1 h => ?_)
  · refine r_aload_n (pc := 252) 0 dX10_goOn_252 rfl rfl ?_
    refine r_getR (pc := 253) (i := 0) (j := 5) fdRX10_22 nLM_0 kLM_0 (by decide) rfl dX10_goOn_253 ?_
    refine r_iconst (pc := 256) dX10_goOn_256 ci_0 ?_
    refine r_iald (pc := 257) (i := 5) (0) (by decide) nLM_5 kLM_5 lLM_5 (by decide) dX10_goOn_257 ?_
    refine r_aload_n (pc := 258) 0 dX10_goOn_258 rfl rfl ?_
    refine r_iconst (pc := 259) dX10_goOn_259 ci_1 ?_
    refine r_aload_n (pc := 260) 0 dX10_goOn_260 rfl rfl ?_
    refine r_getI (pc := 261) (i := 0) fdRX10_103 nLM_0 kLM_0 (by decide) dX10_goOn_261 ?_
    refine bo_k h (fun z1 hz1 h => ?_)
    refine r_callV (pc := 264) (i := 0) (As := [.int 1, .int (σ 0 0)]) (rest := [.int (σ 5 0)]) lkRX10_113 (ceX10_numberOf _ _ σ 1 (σ 0 0) hz1) nLM_0 kLM_0 (by decide) rfl ⟨Nat.le_of_ble_eq_true rfl, Nat.le_of_ble_eq_true rfl⟩ rfl rfl (Nat.le_of_ble_eq_true rfl) dX10_goOn_264 rfl ?_
    refine r_imul (pc := 267) dX10_goOn_267 ?_
    refine r_aload_n (pc := 268) 0 dX10_goOn_268 rfl rfl ?_
    refine r_getR (pc := 269) (i := 0) (j := 5) fdRX10_22 nLM_0 kLM_0 (by decide) rfl dX10_goOn_269 ?_
    refine r_iconst (pc := 272) dX10_goOn_272 ci_1 ?_
    refine r_iald (pc := 273) (i := 5) (1) (by decide) nLM_5 kLM_5 lLM_5 (by decide) dX10_goOn_273 ?_
    refine r_aload_n (pc := 274) 0 dX10_goOn_274 rfl rfl ?_
    refine r_iconst (pc := 275) dX10_goOn_275 ci_2 ?_
    refine r_aload_n (pc := 276) 0 dX10_goOn_276 rfl rfl ?_
    refine r_getI (pc := 277) (i := 0) fdRX10_103 nLM_0 kLM_0 (by decide) dX10_goOn_277 ?_
    refine bo_k h (fun z2 hz2 h => ?_)
    refine r_callV (pc := 280) (i := 0) (As := [.int 2, .int (σ 0 0)]) (rest := [.int (σ 5 1), .int ((σ 5 0) * z1)]) lkRX10_113 (ceX10_numberOf _ _ σ 2 (σ 0 0) hz2) nLM_0 kLM_0 (by decide) rfl ⟨Nat.le_of_ble_eq_true rfl, Nat.le_of_ble_eq_true rfl⟩ rfl rfl (Nat.le_of_ble_eq_true rfl) dX10_goOn_280 rfl ?_
    refine r_imul (pc := 283) dX10_goOn_283 ?_
    refine r_iadd (pc := 284) dX10_goOn_284 ?_
    refine r_sub [0, 2, 3] rfl ?_
    exact gX10_goOn_285 E σ v2 v3 (((σ 5 0) * z1) + ((σ 5 1) * z2)) h
  · refine r_iconst (pc := 248) dX10_goOn_248 ci_0 ?_
    refine r_goto (pc := 249) 285 dX10_goOn_249 (by decide) ?_
    refine r_sub [0, 2, 3] rfl ?_
    exact gX10_goOn_285 E σ v2 v3 0 h
def fX10_goOn_168  : Nat → Mem → Int32 → Int32 → Int32 → Int32 → Option Mem
  | 0, _, _, _, _, _ => none
  | n + 1, σ, v1, v2, v3, v4 =>
    if σ 0 1 ≤ v4 then
      (fX10_goOn_244 σ v1 v2 v3)
    else
      (if v1 = 0 then
        (if inb v4 10 = true then
        (if σ 2 v4.toNatClampNeg = 0 then
          (fX10_goOn_191 (fun σ_ v1_ v2_ v3_ v4_ => fX10_goOn_168 n σ_ v1_ v2_ v3_ v4_) σ v2 v3 v4)
        else
          (fX10_goOn_196 (fun σ_ v1_ v2_ v3_ v4_ => fX10_goOn_168 n σ_ v1_ v2_ v3_ v4_) σ v2 v3 v4 0))
        else none)
      else
        (fX10_goOn_191 (fun σ_ v1_ v2_ v3_ v4_ => fX10_goOn_168 n σ_ v1_ v2_ v3_ v4_) σ v2 v3 v4))
set_option maxHeartbeats 4000000 in
set_option maxRecDepth 20000 in
theorem gX10_goOn_168 (E : XE)  {r : Mem}  : ∀ (n : Nat) (σ : Mem) (v1 : Int32) (v2 : Int32) (v3 : Int32) (v4 : Int32), fX10_goOn_168 n σ v1 v2 v3 v4 = some r → G E LM qX10_goOn σ 168 [(0, .ref (xa E 0)), (1, .int v1), (2, .int v2), (3, .int v3), (4, .int v4)] [] (none, r) := by
  intro n
  induction n with
  | zero => intro σ v1 v2 v3 v4 h; cases h
  | succ n ih =>
    intro σ v1 v2 v3 v4 h
    unfold fX10_goOn_168 at h
    refine r_iload (pc := 168) 4 dX10_goOn_168 rfl ?_
    refine r_aload_n (pc := 170) 0 dX10_goOn_170 rfl rfl ?_
    refine r_getI (pc := 171) (i := 0) fdRX10_96 nLM_0 kLM_0 (by decide) dX10_goOn_171 ?_
    refine r_icmp_ge (pc := 174) 244 dX10_goOn_174 (by decide) h (fun c1 h => ?_) (fun c1 h => ?_)
    · refine r_sub [0, 1, 2, 3] rfl ?_
      exact gX10_goOn_244 E σ v1 v2 v3 h
    · refine r_iload_n (pc := 177) 1 dX10_goOn_177 rfl rfl ?_
      refine r_if_ne (pc := 178) 191 dX10_goOn_178 (by decide) h (fun c2 h => ?_) (fun c2 h => ?_)
      · refine r_aload_n (pc := 181) 0 dX10_goOn_181 rfl rfl ?_
        refine r_getR (pc := 182) (i := 0) (j := 2) fdRX10_13 nLM_0 kLM_0 (by decide) rfl dX10_goOn_182 ?_
        refine r_iload (pc := 185) 4 dX10_goOn_185 rfl ?_
        refine inb_k h (fun b1 h => ?_)
        refine r_iald (pc := 187) (i := 2) (v4.toNatClampNeg) rfl nLM_2 kLM_2 lLM_2 b1 dX10_goOn_187 ?_
        refine r_if_ne (pc := 188) 195 dX10_goOn_188 (by decide) h (fun c3 h => ?_) (fun c3 h => ?_)
        · refine r_sub [0, 2, 3, 4] rfl ?_
          exact gX10_goOn_191 E (fun σ_ v1_ v2_ v3_ v4_ => fX10_goOn_168 n σ_ v1_ v2_ v3_ v4_) ih σ v2 v3 v4 h
        · refine r_iconst (pc := 195) dX10_goOn_195 ci_0 ?_
          refine r_sub [0, 2, 3, 4] rfl ?_
          exact gX10_goOn_196 E (fun σ_ v1_ v2_ v3_ v4_ => fX10_goOn_168 n σ_ v1_ v2_ v3_ v4_) ih σ v2 v3 v4 0 h
      · refine r_sub [0, 2, 3, 4] rfl ?_
        exact gX10_goOn_191 E (fun σ_ v1_ v2_ v3_ v4_ => fX10_goOn_168 n σ_ v1_ v2_ v3_ v4_) ih σ v2 v3 v4 h
def fX10_goOn_159  (σ : Mem)  : Option Mem :=
  fX10_goOn_168 300 σ 0 0 0 0
set_option maxHeartbeats 4000000 in
set_option maxRecDepth 20000 in
theorem gX10_goOn_159 (E : XE)  {r : Mem}  (σ : Mem)   (h : fX10_goOn_159 σ = some r) : G E LM qX10_goOn σ 159 [(0, .ref (xa E 0))] [] (none, r) := by
  unfold fX10_goOn_159 at h
  refine r_iconst (pc := 159) dX10_goOn_159 ci_0 ?_
  refine r_istore_n (pc := 160) (lv' := [(1, .int 0), (0, .ref (xa E 0))]) dX10_goOn_160 rfl (Nat.le_of_ble_eq_true rfl) rfl ?_
  refine r_iconst (pc := 161) dX10_goOn_161 ci_0 ?_
  refine r_istore_n (pc := 162) (lv' := [(2, .int 0), (1, .int 0), (0, .ref (xa E 0))]) dX10_goOn_162 rfl (Nat.le_of_ble_eq_true rfl) rfl ?_
  refine r_iconst (pc := 163) dX10_goOn_163 ci_0 ?_
  refine r_istore_n (pc := 164) (lv' := [(3, .int 0), (2, .int 0), (1, .int 0), (0, .ref (xa E 0))]) dX10_goOn_164 rfl (Nat.le_of_ble_eq_true rfl) rfl ?_
  refine r_iconst (pc := 165) dX10_goOn_165 ci_0 ?_
  refine r_istore (pc := 166) (lv' := [(4, .int 0), (3, .int 0), (2, .int 0), (1, .int 0), (0, .ref (xa E 0))]) dX10_goOn_166 (Nat.le_of_ble_eq_true rfl) rfl ?_
  refine r_sub [4, 3, 2, 1, 0] rfl ?_
  exact gX10_goOn_168 E 300 σ 0 0 0 0 h
def fX10_goOn_84  : Nat → Mem → Int32 → Option Mem
  | 0, _, _ => none
  | n + 1, σ, v1 =>
    if σ 0 13 ≤ v1 then
      (fX10_goOn_159 σ)
    else
      (if inb v1 20 = true then
      (if σ 0 0 = σ 12 v1.toNatClampNeg then
        (fX10_goOn_141 (fun σ_ v1_ => fX10_goOn_84 n σ_ v1_) σ v1)
      else
        (if inb v1 20 = true then
        (if σ 14 v1.toNatClampNeg = 1 then
          (if inb v1 20 = true then
          (if σ 0 0 ≤ σ 12 v1.toNatClampNeg then
            (fX10_goOn_84 n σ (v1 + 1))
          else
            (if inb v1 20 = true then
            (if σ 13 v1.toNatClampNeg < σ 0 0 then
              (fX10_goOn_84 n σ (v1 + 1))
            else
              (fX10_goOn_141 (fun σ_ v1_ => fX10_goOn_84 n σ_ v1_) σ v1))
            else none))
          else none)
        else
          (fX10_goOn_84 n σ (v1 + 1)))
        else none))
      else none)
set_option maxHeartbeats 4000000 in
set_option maxRecDepth 20000 in
theorem gX10_goOn_84 (E : XE)  {r : Mem}  : ∀ (n : Nat) (σ : Mem) (v1 : Int32), fX10_goOn_84 n σ v1 = some r → G E LM qX10_goOn σ 84 [(0, .ref (xa E 0)), (1, .int v1)] [] (none, r) := by
  intro n
  induction n with
  | zero => intro σ v1 h; cases h
  | succ n ih =>
    intro σ v1 h
    unfold fX10_goOn_84 at h
    refine r_iload_n (pc := 84) 1 dX10_goOn_84 rfl rfl ?_
    refine r_aload_n (pc := 85) 0 dX10_goOn_85 rfl rfl ?_
    refine r_getI (pc := 86) (i := 0) fdRX10_92 nLM_0 kLM_0 (by decide) dX10_goOn_86 ?_
    refine r_icmp_ge (pc := 89) 159 dX10_goOn_89 (by decide) h (fun c1 h => ?_) (fun c1 h => ?_)
    · refine r_sub [0] rfl ?_
      exact gX10_goOn_159 E σ h
    · refine r_aload_n (pc := 92) 0 dX10_goOn_92 rfl rfl ?_
      refine r_getI (pc := 93) (i := 0) fdRX10_103 nLM_0 kLM_0 (by decide) dX10_goOn_93 ?_
      refine r_aload_n (pc := 96) 0 dX10_goOn_96 rfl rfl ?_
      refine r_getR (pc := 97) (i := 0) (j := 12) fdRX10_44 nLM_0 kLM_0 (by decide) rfl dX10_goOn_97 ?_
      refine r_iload_n (pc := 100) 1 dX10_goOn_100 rfl rfl ?_
      refine inb_k h (fun b1 h => ?_)
      refine r_iald (pc := 101) (i := 12) (v1.toNatClampNeg) rfl nLM_12 kLM_12 lLM_12 b1 dX10_goOn_101 ?_
      refine r_icmp_eq (pc := 102) 141 dX10_goOn_102 (by decide) h (fun c2 h => ?_) (fun c2 h => ?_)
      · exact gX10_goOn_141 E (fun σ_ v1_ => fX10_goOn_84 n σ_ v1_) ih σ v1 h
      · refine r_aload_n (pc := 105) 0 dX10_goOn_105 rfl rfl ?_
        refine r_getR (pc := 106) (i := 0) (j := 14) fdRX10_50 nLM_0 kLM_0 (by decide) rfl dX10_goOn_106 ?_
        refine r_iload_n (pc := 109) 1 dX10_goOn_109 rfl rfl ?_
        refine inb_k h (fun b2 h => ?_)
        refine r_iald (pc := 110) (i := 14) (v1.toNatClampNeg) rfl nLM_14 kLM_14 lLM_14 b2 dX10_goOn_110 ?_
        refine r_iconst (pc := 111) dX10_goOn_111 ci_1 ?_
        refine r_icmp_ne (pc := 112) 153 dX10_goOn_112 (by decide) h (fun c3 h => ?_) (fun c3 h => ?_)
        · refine r_aload_n (pc := 115) 0 dX10_goOn_115 rfl rfl ?_
          refine r_getI (pc := 116) (i := 0) fdRX10_103 nLM_0 kLM_0 (by decide) dX10_goOn_116 ?_
          refine r_aload_n (pc := 119) 0 dX10_goOn_119 rfl rfl ?_
          refine r_getR (pc := 120) (i := 0) (j := 12) fdRX10_44 nLM_0 kLM_0 (by decide) rfl dX10_goOn_120 ?_
          refine r_iload_n (pc := 123) 1 dX10_goOn_123 rfl rfl ?_
          refine inb_k h (fun b3 h => ?_)
          refine r_iald (pc := 124) (i := 12) (v1.toNatClampNeg) rfl nLM_12 kLM_12 lLM_12 b3 dX10_goOn_124 ?_
          refine r_icmp_le (pc := 125) 153 dX10_goOn_125 (by decide) h (fun c4 h => ?_) (fun c4 h => ?_)
          · refine r_iinc (pc := 153) (v := v1 + 1) (lv' := [(1, .int (v1 + 1)), (0, .ref (xa E 0))]) 1 dX10_goOn_153 rfl (by rw [ci_1]) (Nat.le_of_ble_eq_true rfl) rfl ?_
            refine r_goto (pc := 156) 84 dX10_goOn_156 (by decide) ?_
            refine r_sub [1, 0] rfl ?_
            exact ih σ (v1 + 1) h
          · refine r_aload_n (pc := 128) 0 dX10_goOn_128 rfl rfl ?_
            refine r_getI (pc := 129) (i := 0) fdRX10_103 nLM_0 kLM_0 (by decide) dX10_goOn_129 ?_
            refine r_aload_n (pc := 132) 0 dX10_goOn_132 rfl rfl ?_
            refine r_getR (pc := 133) (i := 0) (j := 13) fdRX10_47 nLM_0 kLM_0 (by decide) rfl dX10_goOn_133 ?_
            refine r_iload_n (pc := 136) 1 dX10_goOn_136 rfl rfl ?_
            refine inb_k h (fun b4 h => ?_)
            refine r_iald (pc := 137) (i := 13) (v1.toNatClampNeg) rfl nLM_13 kLM_13 lLM_13 b4 dX10_goOn_137 ?_
            refine r_icmp_gt (pc := 138) 153 dX10_goOn_138 (by decide) h (fun c5 h => ?_) (fun c5 h => ?_)
            · refine r_iinc (pc := 153) (v := v1 + 1) (lv' := [(1, .int (v1 + 1)), (0, .ref (xa E 0))]) 1 dX10_goOn_153 rfl (by rw [ci_1]) (Nat.le_of_ble_eq_true rfl) rfl ?_
              refine r_goto (pc := 156) 84 dX10_goOn_156 (by decide) ?_
              refine r_sub [1, 0] rfl ?_
              exact ih σ (v1 + 1) h
            · exact gX10_goOn_141 E (fun σ_ v1_ => fX10_goOn_84 n σ_ v1_) ih σ v1 h
        · refine r_iinc (pc := 153) (v := v1 + 1) (lv' := [(1, .int (v1 + 1)), (0, .ref (xa E 0))]) 1 dX10_goOn_153 rfl (by rw [ci_1]) (Nat.le_of_ble_eq_true rfl) rfl ?_
          refine r_goto (pc := 156) 84 dX10_goOn_156 (by decide) ?_
          refine r_sub [1, 0] rfl ?_
          exact ih σ (v1 + 1) h
def fX10_goOn_12  : Nat → Mem → Int32 → Option Mem
  | 0, _, _ => none
  | n + 1, σ, v1 =>
    if σ 0 13 ≤ v1 then
      (fX10_goOn_84 300 σ 1)
    else
      (if inb v1 20 = true then
      (if σ 0 0 ≤ σ 13 v1.toNatClampNeg then
        (fX10_goOn_12 n σ (v1 + 1))
      else
        (if inb v1 20 = true then
        (if σ 16 v1.toNatClampNeg ≤ 0 then
          (fX10_goOn_12 n σ (v1 + 1))
        else
          (if inb v1 20 = true then
          (if inb v1 20 = true then
          (if inb v1 20 = true then
          (bm (mset σ 18 v1.toNatClampNeg ((σ 18 v1.toNatClampNeg) + (σ 16 v1.toNatClampNeg))) (fun m1 =>
          if inb v1 20 = true then
          (bo (fX10_told m1 6 (m1 16 v1.toNatClampNeg)) (fun z1 =>
          if inb v1 20 = true then
          (bm (mset z1 16 v1.toNatClampNeg 0) (fun m2 =>
          fX10_goOn_12 n m2 (v1 + 1)))
          else none))
          else none))
          else none)
          else none)
          else none))
        else none))
      else none)
set_option maxHeartbeats 4000000 in
set_option maxRecDepth 20000 in
theorem gX10_goOn_12 (E : XE)  {r : Mem}  : ∀ (n : Nat) (σ : Mem) (v1 : Int32), fX10_goOn_12 n σ v1 = some r → G E LM qX10_goOn σ 12 [(0, .ref (xa E 0)), (1, .int v1)] [] (none, r) := by
  intro n
  induction n with
  | zero => intro σ v1 h; cases h
  | succ n ih =>
    intro σ v1 h
    unfold fX10_goOn_12 at h
    refine r_iload_n (pc := 12) 1 dX10_goOn_12 rfl rfl ?_
    refine r_aload_n (pc := 13) 0 dX10_goOn_13 rfl rfl ?_
    refine r_getI (pc := 14) (i := 0) fdRX10_92 nLM_0 kLM_0 (by decide) dX10_goOn_14 ?_
    refine r_icmp_ge (pc := 17) 82 dX10_goOn_17 (by decide) h (fun c1 h => ?_) (fun c1 h => ?_)
    · refine r_iconst (pc := 82) dX10_goOn_82 ci_1 ?_
      refine r_istore_n (pc := 83) (lv' := [(1, .int 1), (0, .ref (xa E 0))]) dX10_goOn_83 rfl (Nat.le_of_ble_eq_true rfl) rfl ?_
      refine r_sub [1, 0] rfl ?_
      exact gX10_goOn_84 E 300 σ 1 h
    · refine r_aload_n (pc := 20) 0 dX10_goOn_20 rfl rfl ?_
      refine r_getI (pc := 21) (i := 0) fdRX10_103 nLM_0 kLM_0 (by decide) dX10_goOn_21 ?_
      refine r_aload_n (pc := 24) 0 dX10_goOn_24 rfl rfl ?_
      refine r_getR (pc := 25) (i := 0) (j := 13) fdRX10_47 nLM_0 kLM_0 (by decide) rfl dX10_goOn_25 ?_
      refine r_iload_n (pc := 28) 1 dX10_goOn_28 rfl rfl ?_
      refine inb_k h (fun b1 h => ?_)
      refine r_iald (pc := 29) (i := 13) (v1.toNatClampNeg) rfl nLM_13 kLM_13 lLM_13 b1 dX10_goOn_29 ?_
      refine r_icmp_le (pc := 30) 76 dX10_goOn_30 (by decide) h (fun c2 h => ?_) (fun c2 h => ?_)
      · refine r_iinc (pc := 76) (v := v1 + 1) (lv' := [(1, .int (v1 + 1)), (0, .ref (xa E 0))]) 1 dX10_goOn_76 rfl (by rw [ci_1]) (Nat.le_of_ble_eq_true rfl) rfl ?_
        refine r_goto (pc := 79) 12 dX10_goOn_79 (by decide) ?_
        refine r_sub [1, 0] rfl ?_
        exact ih σ (v1 + 1) h
      · refine r_aload_n (pc := 33) 0 dX10_goOn_33 rfl rfl ?_
        refine r_getR (pc := 34) (i := 0) (j := 16) fdRX10_56 nLM_0 kLM_0 (by decide) rfl dX10_goOn_34 ?_
        refine r_iload_n (pc := 37) 1 dX10_goOn_37 rfl rfl ?_
        refine inb_k h (fun b2 h => ?_)
        refine r_iald (pc := 38) (i := 16) (v1.toNatClampNeg) rfl nLM_16 kLM_16 lLM_16 b2 dX10_goOn_38 ?_
        refine r_if_le (pc := 39) 76 dX10_goOn_39 (by decide) h (fun c3 h => ?_) (fun c3 h => ?_)
        · refine r_iinc (pc := 76) (v := v1 + 1) (lv' := [(1, .int (v1 + 1)), (0, .ref (xa E 0))]) 1 dX10_goOn_76 rfl (by rw [ci_1]) (Nat.le_of_ble_eq_true rfl) rfl ?_
          refine r_goto (pc := 79) 12 dX10_goOn_79 (by decide) ?_
          refine r_sub [1, 0] rfl ?_
          exact ih σ (v1 + 1) h
        · refine r_aload_n (pc := 42) 0 dX10_goOn_42 rfl rfl ?_
          refine r_getR (pc := 43) (i := 0) (j := 18) fdRX10_62 nLM_0 kLM_0 (by decide) rfl dX10_goOn_43 ?_
          refine r_iload_n (pc := 46) 1 dX10_goOn_46 rfl rfl ?_
          refine r_dup2 (pc := 47) dX10_goOn_47 rfl rfl ?_
          refine inb_k h (fun b3 h => ?_)
          refine r_iald (pc := 48) (i := 18) (v1.toNatClampNeg) rfl nLM_18 kLM_18 lLM_18 b3 dX10_goOn_48 ?_
          refine r_aload_n (pc := 49) 0 dX10_goOn_49 rfl rfl ?_
          refine r_getR (pc := 50) (i := 0) (j := 16) fdRX10_56 nLM_0 kLM_0 (by decide) rfl dX10_goOn_50 ?_
          refine r_iload_n (pc := 53) 1 dX10_goOn_53 rfl rfl ?_
          refine inb_k h (fun b4 h => ?_)
          refine r_iald (pc := 54) (i := 16) (v1.toNatClampNeg) rfl nLM_16 kLM_16 lLM_16 b4 dX10_goOn_54 ?_
          refine r_iadd (pc := 55) dX10_goOn_55 ?_
          refine inb_k h (fun b5 h => ?_)
          refine r_iast (pc := 56) (i := 18) (v1.toNatClampNeg) ((σ 18 v1.toNatClampNeg) + (σ 16 v1.toNatClampNeg)) rfl rfl nLM_18 kLM_18 lLM_18 b5 dX10_goOn_56 ?_
          refine g_bm h (fun m1 em1 h => ?_)
          refine r_aload_n (pc := 57) 0 dX10_goOn_57 rfl rfl ?_
          refine r_bipush (pc := 58) dX10_goOn_58 cb_6 ?_
          refine r_aload_n (pc := 60) 0 dX10_goOn_60 rfl rfl ?_
          refine r_getR (pc := 61) (i := 0) (j := 16) fdRX10_56 nLM_0 kLM_0 (by decide) rfl dX10_goOn_61 ?_
          refine r_iload_n (pc := 64) 1 dX10_goOn_64 rfl rfl ?_
          refine inb_k h (fun b6 h => ?_)
          refine r_iald (pc := 65) (i := 16) (v1.toNatClampNeg) rfl nLM_16 kLM_16 lLM_16 b6 dX10_goOn_65 ?_
          refine bo_k h (fun z1 hz1 h => ?_)
          refine r_callV (pc := 66) (i := 0) (As := [.int 6, .int (m1 16 v1.toNatClampNeg)]) (rest := []) lkRX10_209 (ceX10_told _ _ m1 6 (m1 16 v1.toNatClampNeg) hz1) nLM_0 kLM_0 (by decide) rfl ⟨Nat.le_of_ble_eq_true rfl, Nat.le_of_ble_eq_true rfl⟩ rfl rfl (Nat.le_of_ble_eq_true rfl) dX10_goOn_66 rfl ?_
          refine r_aload_n (pc := 69) 0 dX10_goOn_69 rfl rfl ?_
          refine r_getR (pc := 70) (i := 0) (j := 16) fdRX10_56 nLM_0 kLM_0 (by decide) rfl dX10_goOn_70 ?_
          refine r_iload_n (pc := 73) 1 dX10_goOn_73 rfl rfl ?_
          refine r_iconst (pc := 74) dX10_goOn_74 ci_0 ?_
          refine inb_k h (fun b7 h => ?_)
          refine r_iast (pc := 75) (i := 16) (v1.toNatClampNeg) (0) rfl rfl nLM_16 kLM_16 lLM_16 b7 dX10_goOn_75 ?_
          refine g_bm h (fun m2 em2 h => ?_)
          refine r_iinc (pc := 76) (v := v1 + 1) (lv' := [(1, .int (v1 + 1)), (0, .ref (xa E 0))]) 1 dX10_goOn_76 rfl (by rw [ci_1]) (Nat.le_of_ble_eq_true rfl) rfl ?_
          refine r_goto (pc := 79) 12 dX10_goOn_79 (by decide) ?_
          refine r_sub [1, 0] rfl ?_
          exact ih m2 (v1 + 1) h
def fX10_goOn (σ : Mem)  : Option Mem :=
  bm (mset σ 0 0 ((σ 0 0) + 1)) (fun m1 =>
  fX10_goOn_12 300 m1 1)
set_option maxHeartbeats 4000000 in
set_option maxRecDepth 20000 in
theorem gX10_goOn (E : XE) {r : Mem} (σ : Mem)   (h : fX10_goOn σ  = some r) : G E LM qX10_goOn σ 0 [(0, .ref (xa E 0))] [] (none, r) := by
  unfold fX10_goOn at h
  refine r_aload_n (pc := 0) 0 dX10_goOn_0 rfl rfl ?_
  refine r_dup (pc := 1) dX10_goOn_1 rfl ?_
  refine r_getI (pc := 2) (i := 0) fdRX10_103 nLM_0 kLM_0 (by decide) dX10_goOn_2 ?_
  refine r_iconst (pc := 5) dX10_goOn_5 ci_1 ?_
  refine r_iadd (pc := 6) dX10_goOn_6 ?_
  refine r_putI (pc := 7) (i := 0) fpRX10_103 nLM_0 kLM_0 (by decide) rfl rfl dX10_goOn_7 ?_
  refine g_bm h (fun m1 em1 h => ?_)
  refine r_iconst (pc := 10) dX10_goOn_10 ci_1 ?_
  refine r_istore_n (pc := 11) (lv' := [(1, .int 1), (0, .ref (xa E 0))]) dX10_goOn_11 rfl (Nat.le_of_ble_eq_true rfl) rfl ?_
  refine r_sub [1, 0] rfl ?_
  exact gX10_goOn_12 E 300 m1 1 h
theorem ceX10_goOn (l : Launch) (d : SD) (σ : Mem)   {r : Mem} (h : fX10_goOn σ  = some r) : Me l d LM yX10_goOn qX10_goOn σ [.ref (d.2.2.1 0)] (none, r) := me_of (avs := fun d => [.ref (d.2.2.1 0)]) (by decide) rfl (Nat.le_of_ble_eq_true rfl) (fun E => gX10_goOn E σ   h)
def fX10_years_27  : Nat → Mem → Int32 → Int32 → Option (Int32 × Mem)
  | 0, _, _, _ => none
  | n + 1, σ, v1, v2 =>
    if v1 ≤ v2 then
      (some (σ 0 0, σ))
    else
      (bo (fX10_goOn σ) (fun z1 =>
      fX10_years_27 n z1 v1 (v2 + 1)))
set_option maxHeartbeats 4000000 in
set_option maxRecDepth 20000 in
theorem gX10_years_27 (E : XE)  {r : Int32 × Mem}  : ∀ (n : Nat) (σ : Mem) (v1 : Int32) (v2 : Int32), fX10_years_27 n σ v1 v2 = some r → G E LM qX10_years σ 27 [(0, .ref (xa E 0)), (1, .int v1), (2, .int v2)] [] (some r.1, r.2) := by
  intro n
  induction n with
  | zero => intro σ v1 v2 h; cases h
  | succ n ih =>
    intro σ v1 v2 h
    unfold fX10_years_27 at h
    refine r_iload_n (pc := 27) 2 dX10_years_27 rfl rfl ?_
    refine r_iload_n (pc := 28) 1 dX10_years_28 rfl rfl ?_
    refine r_icmp_ge (pc := 29) 42 dX10_years_29 (by decide) h (fun c1 h => ?_) (fun c1 h => ?_)
    · refine r_aload_n (pc := 42) 0 dX10_years_42 rfl rfl ?_
      refine r_getI (pc := 43) (i := 0) fdRX10_103 nLM_0 kLM_0 (by decide) dX10_years_43 ?_
      exact r_iretW (pc := 46) rfl dX10_years_46 h
    · refine r_aload_n (pc := 32) 0 dX10_years_32 rfl rfl ?_
      refine bo_k h (fun z1 hz1 h => ?_)
      refine r_callV (pc := 33) (i := 0) (As := []) (rest := []) lkRX10_265 (ceX10_goOn _ _ σ hz1) nLM_0 kLM_0 (by decide) rfl ⟨Nat.le_of_ble_eq_true rfl, Nat.le_of_ble_eq_true rfl⟩ rfl rfl (Nat.le_of_ble_eq_true rfl) dX10_years_33 rfl ?_
      refine r_iinc (pc := 36) (v := v2 + 1) (lv' := [(2, .int (v2 + 1)), (0, .ref (xa E 0)), (1, .int v1)]) 2 dX10_years_36 rfl (by rw [ci_1]) (Nat.le_of_ble_eq_true rfl) rfl ?_
      refine r_goto (pc := 39) 27 dX10_years_39 (by decide) ?_
      refine r_sub [1, 2, 0] rfl ?_
      exact ih z1 v1 (v2 + 1) h
def fX10_years (σ : Mem) (v1 : Int32) : Option (Int32 × Mem) :=
  if fX10_isIn σ v1 1 50 = 0 then
    (some ((-1000000001), σ))
  else
    (if (σ 0 0) + v1 ≤ 200 then
      (fX10_years_27 300 σ v1 0)
    else
      (some ((-1000000001), σ)))
set_option maxHeartbeats 4000000 in
set_option maxRecDepth 20000 in
theorem gX10_years (E : XE) {r : Int32 × Mem} (σ : Mem) (v1 : Int32)  (h : fX10_years σ v1 = some r) : G E LM qX10_years σ 0 [(0, .ref (xa E 0)), (1, .int v1)] [] (some r.1, r.2) := by
  unfold fX10_years at h
  refine r_iload_n (pc := 0) 1 dX10_years_0 rfl rfl ?_
  refine r_iconst (pc := 1) dX10_years_1 ci_1 ?_
  refine r_bipush (pc := 2) dX10_years_2 cb_50 ?_
  refine r_callS (pc := 4) (As := [.int v1, .int 1, .int 50]) (rest := []) lkRX10_99 (ceX10_isIn _ _ σ v1 1 50 rfl) ⟨Nat.le_of_ble_eq_true rfl, Nat.le_of_ble_eq_true rfl⟩ rfl rfl (Nat.le_of_ble_eq_true rfl) dX10_years_4 rfl ?_
  refine r_if_eq (pc := 7) 22 dX10_years_7 (by decide) h (fun c1 h => ?_) (fun c1 h => ?_)
  · refine r_ldc (pc := 22) w_894 dX10_years_22 ?_
    exact r_iretW (pc := 24) rfl dX10_years_24 h
  · refine r_aload_n (pc := 10) 0 dX10_years_10 rfl rfl ?_
    refine r_getI (pc := 11) (i := 0) fdRX10_103 nLM_0 kLM_0 (by decide) dX10_years_11 ?_
    refine r_iload_n (pc := 14) 1 dX10_years_14 rfl rfl ?_
    refine r_iadd (pc := 15) dX10_years_15 ?_
    refine r_sipush (pc := 16) dX10_years_16 cs_200 ?_
    refine r_icmp_le (pc := 19) 25 dX10_years_19 (by decide) h (fun c2 h => ?_) (fun c2 h => ?_)
    · refine r_iconst (pc := 25) dX10_years_25 ci_0 ?_
      refine r_istore_n (pc := 26) (lv' := [(2, .int 0), (0, .ref (xa E 0)), (1, .int v1)]) dX10_years_26 rfl (Nat.le_of_ble_eq_true rfl) rfl ?_
      refine r_sub [1, 2, 0] rfl ?_
      exact gX10_years_27 E 300 σ v1 0 h
    · refine r_ldc (pc := 22) w_894 dX10_years_22 ?_
      exact r_iretW (pc := 24) rfl dX10_years_24 h
theorem ceX10_years (l : Launch) (d : SD) (σ : Mem) (v1 : Int32)  {r : Int32 × Mem} (h : fX10_years σ v1 = some r) : Me l d LM yX10_years qX10_years σ [.ref (d.2.2.1 0), .int v1] (some r.1, r.2) := me_of (avs := fun d => [.ref (d.2.2.1 0), .int v1]) (by decide) rfl (Nat.le_of_ble_eq_true rfl) (fun E => gX10_years E σ v1  h)
def fX10_row (σ : Mem) (v1 : Int32) (v2 : Int32) : Option Int32 :=
  if v1 < 0 then
    (some ((-1000000001)))
  else
    (if fX10_isIn σ v2 0 3 = 0 then
      (some ((-1000000001)))
    else
      (if σ 0 25 ≤ v1 then
        (some ((-1000000005)))
      else
        (if inb ((4 * (((σ 0 24) + v1) - ((σ 0 24) + v1) / 200 * 200)) + v2) 800 = true then
        (some (σ 20 (((4 * (((σ 0 24) + v1) - ((σ 0 24) + v1) / 200 * 200)) + v2).toNatClampNeg)))
        else none)))
set_option maxHeartbeats 4000000 in
set_option maxRecDepth 20000 in
theorem gX10_row (E : XE) {r : Int32} (σ : Mem) (v1 : Int32) (v2 : Int32)  (h : fX10_row σ v1 v2 = some r) : G E LM qX10_row σ 0 [(0, .ref (xa E 0)), (1, .int v1), (2, .int v2)] [] (some r, σ) := by
  unfold fX10_row at h
  refine r_iload_n (pc := 0) 1 dX10_row_0 rfl rfl ?_
  refine r_if_lt (pc := 1) 13 dX10_row_1 (by decide) h (fun c1 h => ?_) (fun c1 h => ?_)
  · refine r_ldc (pc := 13) w_894 dX10_row_13 ?_
    exact r_iret (pc := 15) rfl dX10_row_15 (Option.some.inj h) rfl
  · refine r_iload_n (pc := 4) 2 dX10_row_4 rfl rfl ?_
    refine r_iconst (pc := 5) dX10_row_5 ci_0 ?_
    refine r_iconst (pc := 6) dX10_row_6 ci_3 ?_
    refine r_callS (pc := 7) (As := [.int v2, .int 0, .int 3]) (rest := []) lkRX10_99 (ceX10_isIn _ _ σ v2 0 3 rfl) ⟨Nat.le_of_ble_eq_true rfl, Nat.le_of_ble_eq_true rfl⟩ rfl rfl (Nat.le_of_ble_eq_true rfl) dX10_row_7 rfl ?_
    refine r_if_ne (pc := 10) 16 dX10_row_10 (by decide) h (fun c2 h => ?_) (fun c2 h => ?_)
    · refine r_ldc (pc := 13) w_894 dX10_row_13 ?_
      exact r_iret (pc := 15) rfl dX10_row_15 (Option.some.inj h) rfl
    · refine r_iload_n (pc := 16) 1 dX10_row_16 rfl rfl ?_
      refine r_aload_n (pc := 17) 0 dX10_row_17 rfl rfl ?_
      refine r_getI (pc := 18) (i := 0) fdRX10_239 nLM_0 kLM_0 (by decide) dX10_row_18 ?_
      refine r_icmp_ge (pc := 21) 46 dX10_row_21 (by decide) h (fun c3 h => ?_) (fun c3 h => ?_)
      · refine r_ldc (pc := 46) w_925 dX10_row_46 ?_
        exact r_iret (pc := 48) rfl dX10_row_48 (Option.some.inj h) rfl
      · refine r_aload_n (pc := 24) 0 dX10_row_24 rfl rfl ?_
        refine r_getR (pc := 25) (i := 0) (j := 20) fdRX10_68 nLM_0 kLM_0 (by decide) rfl dX10_row_25 ?_
        refine r_iconst (pc := 28) dX10_row_28 ci_4 ?_
        refine r_aload_n (pc := 29) 0 dX10_row_29 rfl rfl ?_
        refine r_getI (pc := 30) (i := 0) fdRX10_242 nLM_0 kLM_0 (by decide) dX10_row_30 ?_
        refine r_iload_n (pc := 33) 1 dX10_row_33 rfl rfl ?_
        refine r_iadd (pc := 34) dX10_row_34 ?_
        refine r_sipush (pc := 35) dX10_row_35 cs_200 ?_
        refine r_irem (pc := 38) dX10_row_38 (by decide) ?_
        refine r_imul (pc := 39) dX10_row_39 ?_
        refine r_iload_n (pc := 40) 2 dX10_row_40 rfl rfl ?_
        refine r_iadd (pc := 41) dX10_row_41 ?_
        refine inb_k h (fun b1 h => ?_)
        refine r_iald (pc := 42) (i := 20) (((4 * (((σ 0 24) + v1) - ((σ 0 24) + v1) / 200 * 200)) + v2).toNatClampNeg) rfl nLM_20 kLM_20 lLM_20 b1 dX10_row_42 ?_
        refine r_goto (pc := 43) 48 dX10_row_43 (by decide) ?_
        exact r_iret (pc := 48) rfl dX10_row_48 (Option.some.inj h) rfl
theorem ceX10_row (l : Launch) (d : SD) (σ : Mem) (v1 : Int32) (v2 : Int32)  {r : Int32} (h : fX10_row σ v1 v2 = some r) : Me l d LM yX10_row qX10_row σ [.ref (d.2.2.1 0), .int v1, .int v2] (some r, σ) := me_of (avs := fun d => [.ref (d.2.2.1 0), .int v1, .int v2]) (by decide) rfl (Nat.le_of_ble_eq_true rfl) (fun E => gX10_row E σ v1 v2  h)
def fX10_roll (σ : Mem) (v1 : Int32) (v2 : Int32) : Option Int32 :=
  if fX10_isIn σ v1 0 200 = 0 then
    (some ((-1000000001)))
  else
    (if fX10_isIn σ v2 0 6 = 0 then
      (some ((-1000000001)))
    else
      (if inb ((7 * v1) + v2) 1407 = true then
      (some (σ 21 (((7 * v1) + v2).toNatClampNeg)))
      else none))
set_option maxHeartbeats 4000000 in
set_option maxRecDepth 20000 in
theorem gX10_roll (E : XE) {r : Int32} (σ : Mem) (v1 : Int32) (v2 : Int32)  (h : fX10_roll σ v1 v2 = some r) : G E LM qX10_roll σ 0 [(0, .ref (xa E 0)), (1, .int v1), (2, .int v2)] [] (some r, σ) := by
  unfold fX10_roll at h
  refine r_iload_n (pc := 0) 1 dX10_roll_0 rfl rfl ?_
  refine r_iconst (pc := 1) dX10_roll_1 ci_0 ?_
  refine r_sipush (pc := 2) dX10_roll_2 cs_200 ?_
  refine r_callS (pc := 5) (As := [.int v1, .int 0, .int 200]) (rest := []) lkRX10_99 (ceX10_isIn _ _ σ v1 0 200 rfl) ⟨Nat.le_of_ble_eq_true rfl, Nat.le_of_ble_eq_true rfl⟩ rfl rfl (Nat.le_of_ble_eq_true rfl) dX10_roll_5 rfl ?_
  refine r_if_eq (pc := 8) 35 dX10_roll_8 (by decide) h (fun c1 h => ?_) (fun c1 h => ?_)
  · refine r_ldc (pc := 35) w_894 dX10_roll_35 ?_
    exact r_iret (pc := 37) rfl dX10_roll_37 (Option.some.inj h) rfl
  · refine r_iload_n (pc := 11) 2 dX10_roll_11 rfl rfl ?_
    refine r_iconst (pc := 12) dX10_roll_12 ci_0 ?_
    refine r_bipush (pc := 13) dX10_roll_13 cb_6 ?_
    refine r_callS (pc := 15) (As := [.int v2, .int 0, .int 6]) (rest := []) lkRX10_99 (ceX10_isIn _ _ σ v2 0 6 rfl) ⟨Nat.le_of_ble_eq_true rfl, Nat.le_of_ble_eq_true rfl⟩ rfl rfl (Nat.le_of_ble_eq_true rfl) dX10_roll_15 rfl ?_
    refine r_if_eq (pc := 18) 35 dX10_roll_18 (by decide) h (fun c2 h => ?_) (fun c2 h => ?_)
    · refine r_ldc (pc := 35) w_894 dX10_roll_35 ?_
      exact r_iret (pc := 37) rfl dX10_roll_37 (Option.some.inj h) rfl
    · refine r_aload_n (pc := 21) 0 dX10_roll_21 rfl rfl ?_
      refine r_getR (pc := 22) (i := 0) (j := 21) fdRX10_71 nLM_0 kLM_0 (by decide) rfl dX10_roll_22 ?_
      refine r_bipush (pc := 25) dX10_roll_25 cb_7 ?_
      refine r_iload_n (pc := 27) 1 dX10_roll_27 rfl rfl ?_
      refine r_imul (pc := 28) dX10_roll_28 ?_
      refine r_iload_n (pc := 29) 2 dX10_roll_29 rfl rfl ?_
      refine r_iadd (pc := 30) dX10_roll_30 ?_
      refine inb_k h (fun b1 h => ?_)
      refine r_iald (pc := 31) (i := 21) (((7 * v1) + v2).toNatClampNeg) rfl nLM_21 kLM_21 lLM_21 b1 dX10_roll_31 ?_
      refine r_goto (pc := 32) 37 dX10_roll_32 (by decide) ?_
      exact r_iret (pc := 37) rfl dX10_roll_37 (Option.some.inj h) rfl
theorem ceX10_roll (l : Launch) (d : SD) (σ : Mem) (v1 : Int32) (v2 : Int32)  {r : Int32} (h : fX10_roll σ v1 v2 = some r) : Me l d LM yX10_roll qX10_roll σ [.ref (d.2.2.1 0), .int v1, .int v2] (some r, σ) := me_of (avs := fun d => [.ref (d.2.2.1 0), .int v1, .int v2]) (by decide) rfl (Nat.le_of_ble_eq_true rfl) (fun E => gX10_roll E σ v1 v2  h)
def fX10_sum_4  : Nat → Mem → Int32 → Int32 → Option Int32
  | 0, _, _, _ => none
  | n + 1, σ, v1, v2 =>
    if σ 0 13 ≤ v2 then
      (some (v1))
    else
      (if inb v2 20 = true then
      (bi (v1 + (σ 16 v2.toNatClampNeg)) (fun x1 =>
      fX10_sum_4 n σ x1 (v2 + 1)))
      else none)
set_option maxHeartbeats 4000000 in
set_option maxRecDepth 20000 in
theorem gX10_sum_4 (E : XE)  {r : Int32}  (n : Nat) (σ : Mem) : ∀ (v1 : Int32) (v2 : Int32), fX10_sum_4 n σ v1 v2 = some r → G E LM qX10_sum σ 4 [(0, .ref (xa E 0)), (1, .int v1), (2, .int v2)] [] (some r, σ) := by
  induction n with
  | zero => intro v1 v2 h; cases h
  | succ n ih =>
    intro v1 v2 h
    unfold fX10_sum_4 at h
    refine r_iload_n (pc := 4) 2 dX10_sum_4 rfl rfl ?_
    refine r_aload_n (pc := 5) 0 dX10_sum_5 rfl rfl ?_
    refine r_getI (pc := 6) (i := 0) fdRX10_92 nLM_0 kLM_0 (by decide) dX10_sum_6 ?_
    refine r_icmp_ge (pc := 9) 27 dX10_sum_9 (by decide) h (fun c1 h => ?_) (fun c1 h => ?_)
    · refine r_iload_n (pc := 27) 1 dX10_sum_27 rfl rfl ?_
      exact r_iret (pc := 28) rfl dX10_sum_28 (Option.some.inj h) rfl
    · refine r_iload_n (pc := 12) 1 dX10_sum_12 rfl rfl ?_
      refine r_aload_n (pc := 13) 0 dX10_sum_13 rfl rfl ?_
      refine r_getR (pc := 14) (i := 0) (j := 16) fdRX10_56 nLM_0 kLM_0 (by decide) rfl dX10_sum_14 ?_
      refine r_iload_n (pc := 17) 2 dX10_sum_17 rfl rfl ?_
      refine inb_k h (fun b1 h => ?_)
      refine r_iald (pc := 18) (i := 16) (v2.toNatClampNeg) rfl nLM_16 kLM_16 lLM_16 b1 dX10_sum_18 ?_
      refine r_iadd (pc := 19) dX10_sum_19 ?_
      refine g_bi h (fun x1 ex1 h => ?_)
      refine r_istore_n (pc := 20) (lv' := [(1, .int x1), (0, .ref (xa E 0)), (2, .int v2)]) dX10_sum_20 rfl (Nat.le_of_ble_eq_true rfl) rfl ?_
      refine r_iinc (pc := 21) (v := v2 + 1) (lv' := [(2, .int (v2 + 1)), (1, .int x1), (0, .ref (xa E 0))]) 2 dX10_sum_21 rfl (by rw [ci_1]) (Nat.le_of_ble_eq_true rfl) rfl ?_
      refine r_goto (pc := 24) 4 dX10_sum_24 (by decide) ?_
      refine r_sub [2, 1, 0] rfl ?_
      exact ih x1 (v2 + 1) h
def fX10_sum (σ : Mem)  : Option Int32 :=
  fX10_sum_4 300 σ 0 0
set_option maxHeartbeats 4000000 in
set_option maxRecDepth 20000 in
theorem gX10_sum (E : XE) {r : Int32} (σ : Mem)   (h : fX10_sum σ  = some r) : G E LM qX10_sum σ 0 [(0, .ref (xa E 0))] [] (some r, σ) := by
  unfold fX10_sum at h
  refine r_iconst (pc := 0) dX10_sum_0 ci_0 ?_
  refine r_istore_n (pc := 1) (lv' := [(1, .int 0), (0, .ref (xa E 0))]) dX10_sum_1 rfl (Nat.le_of_ble_eq_true rfl) rfl ?_
  refine r_iconst (pc := 2) dX10_sum_2 ci_0 ?_
  refine r_istore_n (pc := 3) (lv' := [(2, .int 0), (1, .int 0), (0, .ref (xa E 0))]) dX10_sum_3 rfl (Nat.le_of_ble_eq_true rfl) rfl ?_
  refine r_sub [2, 1, 0] rfl ?_
  exact gX10_sum_4 E 300 σ 0 0 h
theorem ceX10_sum (l : Launch) (d : SD) (σ : Mem)   {r : Int32} (h : fX10_sum σ  = some r) : Me l d LM yX10_sum qX10_sum σ [.ref (d.2.2.1 0)] (some r, σ) := me_of (avs := fun d => [.ref (d.2.2.1 0)]) (by decide) rfl (Nat.le_of_ble_eq_true rfl) (fun E => gX10_sum E σ   h)
def fX10_spent (σ : Mem) (v1 : Int32) (v2 : Int32) : Option Int32 :=
  if fX10_isPurse σ v1 = 0 then
    (some ((-1000000001)))
  else
    (if fX10_isEnd σ v2 = 0 then
      (some ((-1000000001)))
    else
      (if inb ((12 * v1) + v2) 240 = true then
      (some (σ 19 (((12 * v1) + v2).toNatClampNeg)))
      else none))
set_option maxHeartbeats 4000000 in
set_option maxRecDepth 20000 in
theorem gX10_spent (E : XE) {r : Int32} (σ : Mem) (v1 : Int32) (v2 : Int32)  (h : fX10_spent σ v1 v2 = some r) : G E LM qX10_spent σ 0 [(0, .ref (xa E 0)), (1, .int v1), (2, .int v2)] [] (some r, σ) := by
  unfold fX10_spent at h
  refine r_aload_n (pc := 0) 0 dX10_spent_0 rfl rfl ?_
  refine r_iload_n (pc := 1) 1 dX10_spent_1 rfl rfl ?_
  refine r_callV (pc := 2) (i := 0) (As := [.int v1]) (rest := []) lkRX10_220 (ceX10_isPurse _ _ σ v1 rfl) nLM_0 kLM_0 (by decide) rfl ⟨Nat.le_of_ble_eq_true rfl, Nat.le_of_ble_eq_true rfl⟩ rfl rfl (Nat.le_of_ble_eq_true rfl) dX10_spent_2 rfl ?_
  refine r_if_eq (pc := 5) 30 dX10_spent_5 (by decide) h (fun c1 h => ?_) (fun c1 h => ?_)
  · refine r_ldc (pc := 30) w_894 dX10_spent_30 ?_
    exact r_iret (pc := 32) rfl dX10_spent_32 (Option.some.inj h) rfl
  · refine r_aload_n (pc := 8) 0 dX10_spent_8 rfl rfl ?_
    refine r_iload_n (pc := 9) 2 dX10_spent_9 rfl rfl ?_
    refine r_callV (pc := 10) (i := 0) (As := [.int v2]) (rest := []) lkRX10_230 (ceX10_isEnd _ _ σ v2 rfl) nLM_0 kLM_0 (by decide) rfl ⟨Nat.le_of_ble_eq_true rfl, Nat.le_of_ble_eq_true rfl⟩ rfl rfl (Nat.le_of_ble_eq_true rfl) dX10_spent_10 rfl ?_
    refine r_if_eq (pc := 13) 30 dX10_spent_13 (by decide) h (fun c2 h => ?_) (fun c2 h => ?_)
    · refine r_ldc (pc := 30) w_894 dX10_spent_30 ?_
      exact r_iret (pc := 32) rfl dX10_spent_32 (Option.some.inj h) rfl
    · refine r_aload_n (pc := 16) 0 dX10_spent_16 rfl rfl ?_
      refine r_getR (pc := 17) (i := 0) (j := 19) fdRX10_65 nLM_0 kLM_0 (by decide) rfl dX10_spent_17 ?_
      refine r_bipush (pc := 20) dX10_spent_20 cb_12 ?_
      refine r_iload_n (pc := 22) 1 dX10_spent_22 rfl rfl ?_
      refine r_imul (pc := 23) dX10_spent_23 ?_
      refine r_iload_n (pc := 24) 2 dX10_spent_24 rfl rfl ?_
      refine r_iadd (pc := 25) dX10_spent_25 ?_
      refine inb_k h (fun b1 h => ?_)
      refine r_iald (pc := 26) (i := 19) (((12 * v1) + v2).toNatClampNeg) rfl nLM_19 kLM_19 lLM_19 b1 dX10_spent_26 ?_
      refine r_goto (pc := 27) 32 dX10_spent_27 (by decide) ?_
      exact r_iret (pc := 32) rfl dX10_spent_32 (Option.some.inj h) rfl
theorem ceX10_spent (l : Launch) (d : SD) (σ : Mem) (v1 : Int32) (v2 : Int32)  {r : Int32} (h : fX10_spent σ v1 v2 = some r) : Me l d LM yX10_spent qX10_spent σ [.ref (d.2.2.1 0), .int v1, .int v2] (some r, σ) := me_of (avs := fun d => [.ref (d.2.2.1 0), .int v1, .int v2]) (by decide) rfl (Nat.le_of_ble_eq_true rfl) (fun E => gX10_spent E σ v1 v2  h)
def fX10_count_55  : Nat → Mem → Int32 → Int32 → Option Int32
  | 0, _, _, _ => none
  | n + 1, σ, v2, v3 =>
    if σ 0 1 ≤ v3 then
      (some (v2))
    else
      (if inb v3 10 = true then
      (if σ 2 v3.toNatClampNeg = 0 then
        (bi (v2 + 1) (fun x1 =>
        fX10_count_55 n σ x1 (v3 + 1)))
      else
        (bi (v2 + 0) (fun x2 =>
        fX10_count_55 n σ x2 (v3 + 1))))
      else none)
set_option maxHeartbeats 4000000 in
set_option maxRecDepth 20000 in
theorem gX10_count_55 (E : XE)  {r : Int32}  (n : Nat) (σ : Mem) : ∀ (v2 : Int32) (v3 : Int32), fX10_count_55 n σ v2 v3 = some r → G E LM qX10_count σ 55 [(0, .ref (xa E 0)), (2, .int v2), (3, .int v3)] [] (some r, σ) := by
  induction n with
  | zero => intro v2 v3 h; cases h
  | succ n ih =>
    intro v2 v3 h
    unfold fX10_count_55 at h
    refine r_iload_n (pc := 55) 2 dX10_count_55 rfl rfl ?_
    refine r_aload_n (pc := 56) 0 dX10_count_56 rfl rfl ?_
    refine r_getI (pc := 57) (i := 0) fdRX10_96 nLM_0 kLM_0 (by decide) dX10_count_57 ?_
    refine r_icmp_ge (pc := 60) 86 dX10_count_60 (by decide) h (fun c1 h => ?_) (fun c1 h => ?_)
    · refine r_iload_n (pc := 86) 1 dX10_count_86 rfl rfl ?_
      exact r_iret (pc := 87) rfl dX10_count_87 (Option.some.inj h) rfl
    · refine r_iload_n (pc := 63) 1 dX10_count_63 rfl rfl ?_
      refine r_aload_n (pc := 64) 0 dX10_count_64 rfl rfl ?_
      refine r_getR (pc := 65) (i := 0) (j := 2) fdRX10_13 nLM_0 kLM_0 (by decide) rfl dX10_count_65 ?_
      refine r_iload_n (pc := 68) 2 dX10_count_68 rfl rfl ?_
      refine inb_k h (fun b1 h => ?_)
      refine r_iald (pc := 69) (i := 2) (v3.toNatClampNeg) rfl nLM_2 kLM_2 lLM_2 b1 dX10_count_69 ?_
      refine r_if_ne (pc := 70) 77 dX10_count_70 (by decide) h (fun c2 h => ?_) (fun c2 h => ?_)
      · refine r_iconst (pc := 73) dX10_count_73 ci_1 ?_
        refine r_goto (pc := 74) 78 dX10_count_74 (by decide) ?_
        refine r_iadd (pc := 78) dX10_count_78 ?_
        refine g_bi h (fun x1 ex1 h => ?_)
        refine r_istore_n (pc := 79) (lv' := [(2, .int x1), (0, .ref (xa E 0)), (3, .int v3)]) dX10_count_79 rfl (Nat.le_of_ble_eq_true rfl) rfl ?_
        refine r_iinc (pc := 80) (v := v3 + 1) (lv' := [(3, .int (v3 + 1)), (2, .int x1), (0, .ref (xa E 0))]) 2 dX10_count_80 rfl (by rw [ci_1]) (Nat.le_of_ble_eq_true rfl) rfl ?_
        refine r_goto (pc := 83) 55 dX10_count_83 (by decide) ?_
        refine r_sub [2, 1, 0] rfl ?_
        exact ih x1 (v3 + 1) h
      · refine r_iconst (pc := 77) dX10_count_77 ci_0 ?_
        refine r_iadd (pc := 78) dX10_count_78 ?_
        refine g_bi h (fun x2 ex2 h => ?_)
        refine r_istore_n (pc := 79) (lv' := [(2, .int x2), (0, .ref (xa E 0)), (3, .int v3)]) dX10_count_79 rfl (Nat.le_of_ble_eq_true rfl) rfl ?_
        refine r_iinc (pc := 80) (v := v3 + 1) (lv' := [(3, .int (v3 + 1)), (2, .int x2), (0, .ref (xa E 0))]) 2 dX10_count_80 rfl (by rw [ci_1]) (Nat.le_of_ble_eq_true rfl) rfl ?_
        refine r_goto (pc := 83) 55 dX10_count_83 (by decide) ?_
        refine r_sub [2, 1, 0] rfl ?_
        exact ih x2 (v3 + 1) h
def fX10_count_110  : Nat → Mem → Int32 → Int32 → Option Int32
  | 0, _, _, _ => none
  | n + 1, σ, v2, v3 =>
    if σ 0 1 ≤ v3 then
      (some (v2))
    else
      (if inb v3 10 = true then
      (bi (v2 + (σ 3 v3.toNatClampNeg)) (fun x1 =>
      fX10_count_110 n σ x1 (v3 + 1)))
      else none)
set_option maxHeartbeats 4000000 in
set_option maxRecDepth 20000 in
theorem gX10_count_110 (E : XE)  {r : Int32}  (n : Nat) (σ : Mem) : ∀ (v2 : Int32) (v3 : Int32), fX10_count_110 n σ v2 v3 = some r → G E LM qX10_count σ 110 [(0, .ref (xa E 0)), (2, .int v2), (3, .int v3)] [] (some r, σ) := by
  induction n with
  | zero => intro v2 v3 h; cases h
  | succ n ih =>
    intro v2 v3 h
    unfold fX10_count_110 at h
    refine r_iload_n (pc := 110) 2 dX10_count_110 rfl rfl ?_
    refine r_aload_n (pc := 111) 0 dX10_count_111 rfl rfl ?_
    refine r_getI (pc := 112) (i := 0) fdRX10_96 nLM_0 kLM_0 (by decide) dX10_count_112 ?_
    refine r_icmp_ge (pc := 115) 133 dX10_count_115 (by decide) h (fun c1 h => ?_) (fun c1 h => ?_)
    · refine r_iload_n (pc := 133) 1 dX10_count_133 rfl rfl ?_
      exact r_iret (pc := 134) rfl dX10_count_134 (Option.some.inj h) rfl
    · refine r_iload_n (pc := 118) 1 dX10_count_118 rfl rfl ?_
      refine r_aload_n (pc := 119) 0 dX10_count_119 rfl rfl ?_
      refine r_getR (pc := 120) (i := 0) (j := 3) fdRX10_16 nLM_0 kLM_0 (by decide) rfl dX10_count_120 ?_
      refine r_iload_n (pc := 123) 2 dX10_count_123 rfl rfl ?_
      refine inb_k h (fun b1 h => ?_)
      refine r_iald (pc := 124) (i := 3) (v3.toNatClampNeg) rfl nLM_3 kLM_3 lLM_3 b1 dX10_count_124 ?_
      refine r_iadd (pc := 125) dX10_count_125 ?_
      refine g_bi h (fun x1 ex1 h => ?_)
      refine r_istore_n (pc := 126) (lv' := [(2, .int x1), (0, .ref (xa E 0)), (3, .int v3)]) dX10_count_126 rfl (Nat.le_of_ble_eq_true rfl) rfl ?_
      refine r_iinc (pc := 127) (v := v3 + 1) (lv' := [(3, .int (v3 + 1)), (2, .int x1), (0, .ref (xa E 0))]) 2 dX10_count_127 rfl (by rw [ci_1]) (Nat.le_of_ble_eq_true rfl) rfl ?_
      refine r_goto (pc := 130) 110 dX10_count_130 (by decide) ?_
      refine r_sub [2, 1, 0] rfl ?_
      exact ih x1 (v3 + 1) h
def fX10_count_137  : Nat → Mem → Int32 → Int32 → Option Int32
  | 0, _, _, _ => none
  | n + 1, σ, v2, v3 =>
    if 4 ≤ v3 then
      (some (v2))
    else
      (if inb v3 4 = true then
      (if σ 6 v3.toNatClampNeg = 0 then
        (bi (v2 + 0) (fun x1 =>
        fX10_count_137 n σ x1 (v3 + 1)))
      else
        (bi (v2 + 1) (fun x2 =>
        fX10_count_137 n σ x2 (v3 + 1))))
      else none)
set_option maxHeartbeats 4000000 in
set_option maxRecDepth 20000 in
theorem gX10_count_137 (E : XE)  {r : Int32}  (n : Nat) (σ : Mem) : ∀ (v2 : Int32) (v3 : Int32), fX10_count_137 n σ v2 v3 = some r → G E LM qX10_count σ 137 [(0, .ref (xa E 0)), (2, .int v2), (3, .int v3)] [] (some r, σ) := by
  induction n with
  | zero => intro v2 v3 h; cases h
  | succ n ih =>
    intro v2 v3 h
    unfold fX10_count_137 at h
    refine r_iload_n (pc := 137) 2 dX10_count_137 rfl rfl ?_
    refine r_iconst (pc := 138) dX10_count_138 ci_4 ?_
    refine r_icmp_ge (pc := 139) 165 dX10_count_139 (by decide) h (fun c1 h => ?_) (fun c1 h => ?_)
    · refine r_iload_n (pc := 165) 1 dX10_count_165 rfl rfl ?_
      exact r_iret (pc := 166) rfl dX10_count_166 (Option.some.inj h) rfl
    · refine r_iload_n (pc := 142) 1 dX10_count_142 rfl rfl ?_
      refine r_aload_n (pc := 143) 0 dX10_count_143 rfl rfl ?_
      refine r_getR (pc := 144) (i := 0) (j := 6) fdRX10_25 nLM_0 kLM_0 (by decide) rfl dX10_count_144 ?_
      refine r_iload_n (pc := 147) 2 dX10_count_147 rfl rfl ?_
      refine inb_k h (fun b1 h => ?_)
      refine r_zald (pc := 148) (i := 6) (v3.toNatClampNeg) rfl nLM_6 kLM_6 lLM_6 b1 dX10_count_148 ?_
      refine r_if_eq (pc := 149) 156 dX10_count_149 (by decide) h (fun c2 h => ?_) (fun c2 h => ?_)
      · refine r_iconst (pc := 156) dX10_count_156 ci_0 ?_
        refine r_iadd (pc := 157) dX10_count_157 ?_
        refine g_bi h (fun x1 ex1 h => ?_)
        refine r_istore_n (pc := 158) (lv' := [(2, .int x1), (0, .ref (xa E 0)), (3, .int v3)]) dX10_count_158 rfl (Nat.le_of_ble_eq_true rfl) rfl ?_
        refine r_iinc (pc := 159) (v := v3 + 1) (lv' := [(3, .int (v3 + 1)), (2, .int x1), (0, .ref (xa E 0))]) 2 dX10_count_159 rfl (by rw [ci_1]) (Nat.le_of_ble_eq_true rfl) rfl ?_
        refine r_goto (pc := 162) 137 dX10_count_162 (by decide) ?_
        refine r_sub [2, 1, 0] rfl ?_
        exact ih x1 (v3 + 1) h
      · refine r_iconst (pc := 152) dX10_count_152 ci_1 ?_
        refine r_goto (pc := 153) 157 dX10_count_153 (by decide) ?_
        refine r_iadd (pc := 157) dX10_count_157 ?_
        refine g_bi h (fun x2 ex2 h => ?_)
        refine r_istore_n (pc := 158) (lv' := [(2, .int x2), (0, .ref (xa E 0)), (3, .int v3)]) dX10_count_158 rfl (Nat.le_of_ble_eq_true rfl) rfl ?_
        refine r_iinc (pc := 159) (v := v3 + 1) (lv' := [(3, .int (v3 + 1)), (2, .int x2), (0, .ref (xa E 0))]) 2 dX10_count_159 rfl (by rw [ci_1]) (Nat.le_of_ble_eq_true rfl) rfl ?_
        refine r_goto (pc := 162) 137 dX10_count_162 (by decide) ?_
        refine r_sub [2, 1, 0] rfl ?_
        exact ih x2 (v3 + 1) h
def fX10_count (σ : Mem) (v1 : Int32) : Option Int32 :=
  if v1 = 0 then
    (some (σ 0 1))
  else
    if v1 = 1 then
    (fX10_count_55 300 σ 0 0)
  else
    if v1 = 2 then
    (some (σ 0 13))
  else
    if v1 = 3 then
    (some (σ 0 25))
  else
    if v1 = 4 then
    (some (σ 0 0))
  else
    if v1 = 5 then
    (some (σ 0 12))
  else
    if v1 = 6 then
    (fX10_count_110 300 σ 0 0)
  else
    if v1 = 7 then
    (fX10_count_137 300 σ 0 0)
  else
    (some ((-1000000001)))
set_option maxHeartbeats 4000000 in
set_option maxRecDepth 20000 in
theorem gX10_count (E : XE) {r : Int32} (σ : Mem) (v1 : Int32)  (h : fX10_count σ v1 = some r) : G E LM qX10_count σ 0 [(0, .ref (xa E 0)), (1, .int v1)] [] (some r, σ) := by
  unfold fX10_count at h
  refine r_iconst (pc := 0) dX10_count_0 ci_0 ?_
  refine r_istore_n (pc := 1) (lv' := [(2, .int 0), (0, .ref (xa E 0)), (1, .int v1)]) dX10_count_1 rfl (Nat.le_of_ble_eq_true rfl) rfl ?_
  refine r_iload_n (pc := 2) 2 dX10_count_2 rfl rfl ?_
  refine ite_k h (fun c1 h => ?_) (fun c1 h => ?_)
  · refine r_tabIn (pc := 3) (off := 45) 48 c1 dX10_count_3 (by decide) (by decide) (by decide) (by decide) ?_
    refine r_aload_n (pc := 48) 1 dX10_count_48 rfl rfl ?_
    refine r_getI (pc := 49) (i := 0) fdRX10_96 nLM_0 kLM_0 (by decide) dX10_count_49 ?_
    exact r_iret (pc := 52) rfl dX10_count_52 (Option.some.inj h) rfl
  refine ite_k h (fun c2 h => ?_) (fun c2 h => ?_)
  · refine r_tabIn (pc := 3) (off := 50) 53 c2 dX10_count_3 (by decide) (by decide) (by decide) (by decide) ?_
    refine r_iconst (pc := 53) dX10_count_53 ci_0 ?_
    refine r_istore_n (pc := 54) (lv' := [(3, .int 0), (2, .int 0), (0, .ref (xa E 0)), (1, .int v1)]) dX10_count_54 rfl (Nat.le_of_ble_eq_true rfl) rfl ?_
    refine r_sub [2, 1, 0] rfl ?_
    exact gX10_count_55 E 300 σ 0 0 h
  refine ite_k h (fun c3 h => ?_) (fun c3 h => ?_)
  · refine r_tabIn (pc := 3) (off := 85) 88 c3 dX10_count_3 (by decide) (by decide) (by decide) (by decide) ?_
    refine r_aload_n (pc := 88) 1 dX10_count_88 rfl rfl ?_
    refine r_getI (pc := 89) (i := 0) fdRX10_92 nLM_0 kLM_0 (by decide) dX10_count_89 ?_
    exact r_iret (pc := 92) rfl dX10_count_92 (Option.some.inj h) rfl
  refine ite_k h (fun c4 h => ?_) (fun c4 h => ?_)
  · refine r_tabIn (pc := 3) (off := 90) 93 c4 dX10_count_3 (by decide) (by decide) (by decide) (by decide) ?_
    refine r_aload_n (pc := 93) 1 dX10_count_93 rfl rfl ?_
    refine r_getI (pc := 94) (i := 0) fdRX10_239 nLM_0 kLM_0 (by decide) dX10_count_94 ?_
    exact r_iret (pc := 97) rfl dX10_count_97 (Option.some.inj h) rfl
  refine ite_k h (fun c5 h => ?_) (fun c5 h => ?_)
  · refine r_tabIn (pc := 3) (off := 95) 98 c5 dX10_count_3 (by decide) (by decide) (by decide) (by decide) ?_
    refine r_aload_n (pc := 98) 1 dX10_count_98 rfl rfl ?_
    refine r_getI (pc := 99) (i := 0) fdRX10_103 nLM_0 kLM_0 (by decide) dX10_count_99 ?_
    exact r_iret (pc := 102) rfl dX10_count_102 (Option.some.inj h) rfl
  refine ite_k h (fun c6 h => ?_) (fun c6 h => ?_)
  · refine r_tabIn (pc := 3) (off := 100) 103 c6 dX10_count_3 (by decide) (by decide) (by decide) (by decide) ?_
    refine r_aload_n (pc := 103) 1 dX10_count_103 rfl rfl ?_
    refine r_getI (pc := 104) (i := 0) fdRX10_141 nLM_0 kLM_0 (by decide) dX10_count_104 ?_
    exact r_iret (pc := 107) rfl dX10_count_107 (Option.some.inj h) rfl
  refine ite_k h (fun c7 h => ?_) (fun c7 h => ?_)
  · refine r_tabIn (pc := 3) (off := 105) 108 c7 dX10_count_3 (by decide) (by decide) (by decide) (by decide) ?_
    refine r_iconst (pc := 108) dX10_count_108 ci_0 ?_
    refine r_istore_n (pc := 109) (lv' := [(3, .int 0), (2, .int 0), (0, .ref (xa E 0)), (1, .int v1)]) dX10_count_109 rfl (Nat.le_of_ble_eq_true rfl) rfl ?_
    refine r_sub [2, 1, 0] rfl ?_
    exact gX10_count_110 E 300 σ 0 0 h
  refine ite_k h (fun c8 h => ?_) (fun c8 h => ?_)
  · refine r_tabIn (pc := 3) (off := 132) 135 c8 dX10_count_3 (by decide) (by decide) (by decide) (by decide) ?_
    refine r_iconst (pc := 135) dX10_count_135 ci_0 ?_
    refine r_istore_n (pc := 136) (lv' := [(3, .int 0), (2, .int 0), (0, .ref (xa E 0)), (1, .int v1)]) dX10_count_136 rfl (Nat.le_of_ble_eq_true rfl) rfl ?_
    refine r_sub [2, 1, 0] rfl ?_
    exact gX10_count_137 E 300 σ 0 0 h
  refine r_tabOut (pc := 3) 167 dX10_count_3 (by have ec1 := ti_ne (z := 0) c1 (by decide); have ec2 := ti_ne (z := 1) c2 (by decide); have ec3 := ti_ne (z := 2) c3 (by decide); have ec4 := ti_ne (z := 3) c4 (by decide); have ec5 := ti_ne (z := 4) c5 (by decide); have ec6 := ti_ne (z := 5) c6 (by decide); have ec7 := ti_ne (z := 6) c7 (by decide); have ec8 := ti_ne (z := 7) c8 (by decide); omega) (by decide) ?_
  refine r_ldc (pc := 167) w_894 dX10_count_167 ?_
  exact r_iret (pc := 169) rfl dX10_count_169 (Option.some.inj h) rfl
theorem ceX10_count (l : Launch) (d : SD) (σ : Mem) (v1 : Int32)  {r : Int32} (h : fX10_count σ v1 = some r) : Me l d LM yX10_count qX10_count σ [.ref (d.2.2.1 0), .int v1] (some r, σ) := me_of (avs := fun d => [.ref (d.2.2.1 0), .int v1]) (by decide) rfl (Nat.le_of_ble_eq_true rfl) (fun E => gX10_count E σ v1  h)
