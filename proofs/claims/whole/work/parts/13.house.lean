def fX9_arch (σ : Mem) (v1 : Int32) : Option (Int32 × Mem) :=
  if fX9_isWithin σ v1 0 3 = 0 then
    (some ((-1000000001), σ))
  else
    (if σ 1 1 < 10 then
      (bo (fX2_build σ 1 v1) (fun z1 =>
      some (z1.1, z1.2)))
    else
      (some ((-1000000003), σ)))
set_option maxHeartbeats 4000000 in
set_option maxRecDepth 20000 in
theorem gX9_arch (E : XE) {r : Int32 × Mem} (σ : Mem) (v1 : Int32)  (h : fX9_arch σ v1 = some r) : G E LX qX9_arch σ 0 [(0, .ref (xa E 0)), (1, .int v1)] [] (some r.1, r.2) := by
  unfold fX9_arch at h
  refine r_iload_n (pc := 0) 1 dX9_arch_0 rfl rfl ?_
  refine r_iconst (pc := 1) dX9_arch_1 ci_0 ?_
  refine r_iconst (pc := 2) dX9_arch_2 ci_3 ?_
  refine r_callS (pc := 3) (As := [.int v1, .int 0, .int 3]) (rest := []) lkRX9_67 (ceX9_isWithin _ _ σ v1 0 3 rfl) ⟨Nat.le_of_ble_eq_true rfl, Nat.le_of_ble_eq_true rfl⟩ rfl rfl (Nat.le_of_ble_eq_true rfl) dX9_arch_3 rfl ?_
  refine r_if_ne (pc := 6) 12 dX9_arch_6 (by decide) h (fun c1 h => ?_) (fun c1 h => ?_)
  · refine r_ldc (pc := 9) w_336 dX9_arch_9 ?_
    exact r_iretW (pc := 11) rfl dX9_arch_11 h
  · refine r_aload_n (pc := 12) 0 dX9_arch_12 rfl rfl ?_
    refine r_getR (pc := 13) (i := 0) (j := 1) fdRX9_12 nLX_0 kLX_0 (by decide) rfl dX9_arch_13 ?_
    refine r_getI (pc := 16) (i := 1) fdRX9_72 nLX_1 kLX_1 (by decide) dX9_arch_16 ?_
    refine r_bipush (pc := 19) dX9_arch_19 cb_10 ?_
    refine r_icmp_lt (pc := 21) 29 dX9_arch_21 (by decide) h (fun c2 h => ?_) (fun c2 h => ?_)
    · refine r_aload_n (pc := 29) 0 dX9_arch_29 rfl rfl ?_
      refine r_getR (pc := 30) (i := 0) (j := 1) fdRX9_12 nLX_0 kLX_0 (by decide) rfl dX9_arch_30 ?_
      refine r_iload_n (pc := 33) 1 dX9_arch_33 rfl rfl ?_
      refine bo_k h (fun z1 hz1 h => ?_)
      refine r_callV (pc := 34) (i := 1) (As := [.int v1]) (rest := []) lkRX9_77 (ceX2_build _ _ σ 1 v1 nLX_1 kLX_1 hz1) nLX_1 kLX_1 (by decide) rfl ⟨Nat.le_of_ble_eq_true rfl, Nat.le_of_ble_eq_true rfl⟩ rfl rfl (Nat.le_of_ble_eq_true rfl) dX9_arch_34 rfl ?_
      exact r_iretW (pc := 37) rfl dX9_arch_37 h
    · refine r_ldc (pc := 24) w_337 dX9_arch_24 ?_
      refine r_goto (pc := 26) 37 dX9_arch_26 (by decide) ?_
      exact r_iretW (pc := 37) rfl dX9_arch_37 h
theorem ceX9_arch (l : Launch) (d : SD) (σ : Mem) (v1 : Int32)  {r : Int32 × Mem} (h : fX9_arch σ v1 = some r) : Me l d LX yX9_arch qX9_arch σ [.ref (d.2.2.1 0), .int v1] (some r.1, r.2) := me_of (avs := fun d => [.ref (d.2.2.1 0), .int v1]) (by decide) rfl (Nat.le_of_ble_eq_true rfl) (fun E => gX9_arch E σ v1  h)
def fX9_set_79  (σ : Mem) (v2 : Int32) (v3 : Int32) (v4 : Nat) (t0 : Int32) : Option (Int32 × Mem) :=
  if v2 = 0 then
    (bm (mset σ v4 2 v3) (fun m1 =>
    some (t0, m1)))
  else
    (bm (mset σ v4 3 v3) (fun m2 =>
    some (t0, m2)))
set_option maxHeartbeats 4000000 in
set_option maxRecDepth 20000 in
theorem gX9_set_79 (E : XE)  {r : Int32 × Mem}  (σ : Mem) (v2 : Int32) (v3 : Int32) (v4 : Nat) (t0 : Int32) (n_v4 : v4 < LX.1) (k_v4 : LX.2.1 v4 = 0) (h : fX9_set_79 σ v2 v3 v4 t0 = some r) : G E LX qX9_set σ 79 [(2, .int v2), (3, .int v3), (4, .ref (xa E v4))] [.int t0] (some r.1, r.2) := by
  unfold fX9_set_79 at h
  refine r_istore (pc := 79) (lv' := [(5, .int t0), (2, .int v2), (3, .int v3), (4, .ref (xa E v4))]) dX9_set_79 (Nat.le_of_ble_eq_true rfl) rfl ?_
  refine r_iload_n (pc := 81) 1 dX9_set_81 rfl rfl ?_
  refine r_if_ne (pc := 82) 94 dX9_set_82 (by decide) h (fun c1 h => ?_) (fun c1 h => ?_)
  · refine r_aload (pc := 85) 3 dX9_set_85 rfl ?_
    refine r_iload_n (pc := 87) 2 dX9_set_87 rfl rfl ?_
    refine r_putI (pc := 88) (i := v4) fpRX9_96 n_v4 k_v4 (by decide) rfl rfl dX9_set_88 ?_
    refine g_bm h (fun m1 em1 h => ?_)
    refine r_goto (pc := 91) 100 dX9_set_91 (by decide) ?_
    refine r_iload (pc := 100) 0 dX9_set_100 rfl ?_
    exact r_iretW (pc := 102) rfl dX9_set_102 h
  · refine r_aload (pc := 94) 3 dX9_set_94 rfl ?_
    refine r_iload_n (pc := 96) 2 dX9_set_96 rfl rfl ?_
    refine r_putI (pc := 97) (i := v4) fpRX9_99 n_v4 k_v4 (by decide) rfl rfl dX9_set_97 ?_
    refine g_bm h (fun m2 em2 h => ?_)
    refine r_iload (pc := 100) 0 dX9_set_100 rfl ?_
    exact r_iretW (pc := 102) rfl dX9_set_102 h
def fX9_set_31  (σ : Mem) (v1 : Int32) (v2 : Int32) (v3 : Int32) (t0 : Int32) (t1 : Int32) (t2 : Int32) : Option (Int32 × Mem) :=
  if fX9_isWithin σ t0 t1 t2 = 0 then
    (some ((-1000000001), σ))
  else
    (if inb v1 10 = true then
    (if fX0_isFallen σ (rfX 3 v1.toNatClampNeg) = 0 then
      (if v2 = 0 then
        (fX9_set_79 σ v2 v3 (rfX 3 v1.toNatClampNeg) (σ (rfX 3 v1.toNatClampNeg) 2))
      else
        (fX9_set_79 σ v2 v3 (rfX 3 v1.toNatClampNeg) (σ (rfX 3 v1.toNatClampNeg) 3)))
    else
      (some ((-1000000002), σ)))
    else none)
set_option maxHeartbeats 4000000 in
set_option maxRecDepth 20000 in
theorem gX9_set_31 (E : XE)  {r : Int32 × Mem}  (σ : Mem) (v1 : Int32) (v2 : Int32) (v3 : Int32) (t0 : Int32) (t1 : Int32) (t2 : Int32)  (h : fX9_set_31 σ v1 v2 v3 t0 t1 t2 = some r) : G E LX qX9_set σ 31 [(0, .ref (xa E 0)), (1, .int v1), (2, .int v2), (3, .int v3)] [.int t2, .int t1, .int t0] (some r.1, r.2) := by
  unfold fX9_set_31 at h
  refine r_callS (pc := 31) (As := [.int t0, .int t1, .int t2]) (rest := []) lkRX9_67 (ceX9_isWithin _ _ σ t0 t1 t2 rfl) ⟨Nat.le_of_ble_eq_true rfl, Nat.le_of_ble_eq_true rfl⟩ rfl rfl (Nat.le_of_ble_eq_true rfl) dX9_set_31 rfl ?_
  refine r_if_ne (pc := 34) 40 dX9_set_34 (by decide) h (fun c1 h => ?_) (fun c1 h => ?_)
  · refine r_ldc (pc := 37) w_336 dX9_set_37 ?_
    exact r_iretW (pc := 39) rfl dX9_set_39 h
  · refine r_aload_n (pc := 40) 0 dX9_set_40 rfl rfl ?_
    refine r_getR (pc := 41) (i := 0) (j := 1) fdRX9_12 nLX_0 kLX_0 (by decide) rfl dX9_set_41 ?_
    refine r_getR (pc := 44) (i := 1) (j := 3) fdRX9_85 nLX_1 kLX_1 (by decide) rfl dX9_set_44 ?_
    refine r_iload_n (pc := 47) 1 dX9_set_47 rfl rfl ?_
    refine inb_k h (fun b1 h => ?_)
    refine r_aald14 (pc := 48) (i := 3) (v1.toNatClampNeg) (rfX 3 v1.toNatClampNeg) rfl nLX_3 kLX_3 lLX_3 rfl b1 dX9_set_48 ?_
    refine r_astore (pc := 49) (lv' := [(4, .ref (xa E (rfX 3 v1.toNatClampNeg))), (0, .ref (xa E 0)), (1, .int v1), (2, .int v2), (3, .int v3)]) dX9_set_49 (Nat.le_of_ble_eq_true rfl) rfl ?_
    refine r_aload (pc := 51) 0 dX9_set_51 rfl ?_
    refine r_callV (pc := 53) (i := rfX 3 v1.toNatClampNeg) (As := []) (rest := []) lkRX9_89 (ceX0_isFallen _ _ σ (rfX 3 v1.toNatClampNeg) (elLX_14 nLX_3 kLX_3 (inb_lt b1)).1 (elLX_14 nLX_3 kLX_3 (inb_lt b1)).2 rfl) (elLX_14 nLX_3 kLX_3 (inb_lt b1)).1 (elLX_14 nLX_3 kLX_3 (inb_lt b1)).2 (by decide) rfl ⟨Nat.le_of_ble_eq_true rfl, Nat.le_of_ble_eq_true rfl⟩ rfl rfl (Nat.le_of_ble_eq_true rfl) dX9_set_53 rfl ?_
    refine r_if_eq (pc := 56) 62 dX9_set_56 (by decide) h (fun c2 h => ?_) (fun c2 h => ?_)
    · refine r_iload_n (pc := 62) 3 dX9_set_62 rfl rfl ?_
      refine r_if_ne (pc := 63) 74 dX9_set_63 (by decide) h (fun c3 h => ?_) (fun c3 h => ?_)
      · refine r_aload (pc := 66) 0 dX9_set_66 rfl ?_
        refine r_getI (pc := 68) (i := rfX 3 v1.toNatClampNeg) fdRX9_96 (elLX_14 nLX_3 kLX_3 (inb_lt b1)).1 (elLX_14 nLX_3 kLX_3 (inb_lt b1)).2 (by decide) dX9_set_68 ?_
        refine r_goto (pc := 71) 79 dX9_set_71 (by decide) ?_
        refine r_sub [3, 4, 0] rfl ?_
        exact gX9_set_79 E σ v2 v3 (rfX 3 v1.toNatClampNeg) (σ (rfX 3 v1.toNatClampNeg) 2) (elLX_14 nLX_3 kLX_3 (inb_lt b1)).1 (elLX_14 nLX_3 kLX_3 (inb_lt b1)).2 h
      · refine r_aload (pc := 74) 0 dX9_set_74 rfl ?_
        refine r_getI (pc := 76) (i := rfX 3 v1.toNatClampNeg) fdRX9_99 (elLX_14 nLX_3 kLX_3 (inb_lt b1)).1 (elLX_14 nLX_3 kLX_3 (inb_lt b1)).2 (by decide) dX9_set_76 ?_
        refine r_sub [3, 4, 0] rfl ?_
        exact gX9_set_79 E σ v2 v3 (rfX 3 v1.toNatClampNeg) (σ (rfX 3 v1.toNatClampNeg) 3) (elLX_14 nLX_3 kLX_3 (inb_lt b1)).1 (elLX_14 nLX_3 kLX_3 (inb_lt b1)).2 h
    · refine r_ldc (pc := 59) w_355 dX9_set_59 ?_
      exact r_iretW (pc := 61) rfl dX9_set_61 h
def fX9_set (σ : Mem) (v1 : Int32) (v2 : Int32) (v3 : Int32) : Option (Int32 × Mem) :=
  if fX2_has σ 1 v1 = 0 then
    (some ((-1000000001), σ))
  else
    (if fX9_isWithin σ v2 0 1 = 0 then
      (some ((-1000000001), σ))
    else
      (if v2 = 0 then
        (fX9_set_31 σ v1 v2 v3 v3 0 4)
      else
        (fX9_set_31 σ v1 v2 v3 v3 0 1)))
set_option maxHeartbeats 4000000 in
set_option maxRecDepth 20000 in
theorem gX9_set (E : XE) {r : Int32 × Mem} (σ : Mem) (v1 : Int32) (v2 : Int32) (v3 : Int32)  (h : fX9_set σ v1 v2 v3 = some r) : G E LX qX9_set σ 0 [(0, .ref (xa E 0)), (1, .int v1), (2, .int v2), (3, .int v3)] [] (some r.1, r.2) := by
  unfold fX9_set at h
  refine r_aload_n (pc := 0) 0 dX9_set_0 rfl rfl ?_
  refine r_getR (pc := 1) (i := 0) (j := 1) fdRX9_12 nLX_0 kLX_0 (by decide) rfl dX9_set_1 ?_
  refine r_iload_n (pc := 4) 1 dX9_set_4 rfl rfl ?_
  refine r_callV (pc := 5) (i := 1) (As := [.int v1]) (rest := []) lkRX9_81 (ceX2_has _ _ σ 1 v1 nLX_1 kLX_1 rfl) nLX_1 kLX_1 (by decide) rfl ⟨Nat.le_of_ble_eq_true rfl, Nat.le_of_ble_eq_true rfl⟩ rfl rfl (Nat.le_of_ble_eq_true rfl) dX9_set_5 rfl ?_
  refine r_if_eq (pc := 8) 37 dX9_set_8 (by decide) h (fun c1 h => ?_) (fun c1 h => ?_)
  · refine r_ldc (pc := 37) w_336 dX9_set_37 ?_
    exact r_iretW (pc := 39) rfl dX9_set_39 h
  · refine r_iload_n (pc := 11) 2 dX9_set_11 rfl rfl ?_
    refine r_iconst (pc := 12) dX9_set_12 ci_0 ?_
    refine r_iconst (pc := 13) dX9_set_13 ci_1 ?_
    refine r_callS (pc := 14) (As := [.int v2, .int 0, .int 1]) (rest := []) lkRX9_67 (ceX9_isWithin _ _ σ v2 0 1 rfl) ⟨Nat.le_of_ble_eq_true rfl, Nat.le_of_ble_eq_true rfl⟩ rfl rfl (Nat.le_of_ble_eq_true rfl) dX9_set_14 rfl ?_
    refine r_if_eq (pc := 17) 37 dX9_set_17 (by decide) h (fun c2 h => ?_) (fun c2 h => ?_)
    · refine r_ldc (pc := 37) w_336 dX9_set_37 ?_
      exact r_iretW (pc := 39) rfl dX9_set_39 h
    · refine r_iload_n (pc := 20) 3 dX9_set_20 rfl rfl ?_
      refine r_iconst (pc := 21) dX9_set_21 ci_0 ?_
      refine r_iload_n (pc := 22) 2 dX9_set_22 rfl rfl ?_
      refine r_if_ne (pc := 23) 30 dX9_set_23 (by decide) h (fun c3 h => ?_) (fun c3 h => ?_)
      · refine r_iconst (pc := 26) dX9_set_26 ci_4 ?_
        refine r_goto (pc := 27) 31 dX9_set_27 (by decide) ?_
        exact gX9_set_31 E σ v1 v2 v3 v3 0 4 h
      · refine r_iconst (pc := 30) dX9_set_30 ci_1 ?_
        exact gX9_set_31 E σ v1 v2 v3 v3 0 1 h
theorem ceX9_set (l : Launch) (d : SD) (σ : Mem) (v1 : Int32) (v2 : Int32) (v3 : Int32)  {r : Int32 × Mem} (h : fX9_set σ v1 v2 v3 = some r) : Me l d LX yX9_set qX9_set σ [.ref (d.2.2.1 0), .int v1, .int v2, .int v3] (some r.1, r.2) := me_of (avs := fun d => [.ref (d.2.2.1 0), .int v1, .int v2, .int v3]) (by decide) rfl (Nat.le_of_ble_eq_true rfl) (fun E => gX9_set E σ v1 v2 v3  h)
def fX9_yearOfFall_51  : Nat → Mem → Int32 → Int32 → Int32 → Option (Int32 × Mem)
  | 0, _, _, _, _ => none
  | n + 1, σ, v1, v2, v3 =>
    if v2 < v3 then
      (some ((-1000000005), σ))
    else
      (bo (fX7_inYear σ 36 v3) (fun z1 =>
      bo (fX2_sufferYear σ 2 z1) (fun z2 =>
      if inb v1 10 = true then
      (if fX0_isFallen z2 (rfX 4 v1.toNatClampNeg) = 0 then
        (fX9_yearOfFall_51 n z2 v1 v2 (v3 + 1))
      else
        (some (v3, z2)))
      else none)))
set_option maxHeartbeats 4000000 in
set_option maxRecDepth 20000 in
theorem gX9_yearOfFall_51 (E : XE)  {r : Int32 × Mem}  : ∀ (n : Nat) (σ : Mem) (v1 : Int32) (v2 : Int32) (v3 : Int32), fX9_yearOfFall_51 n σ v1 v2 v3 = some r → G E LX qX9_yearOfFall σ 51 [(0, .ref (xa E 0)), (1, .int v1), (2, .int v2), (3, .int v3)] [] (some r.1, r.2) := by
  intro n
  induction n with
  | zero => intro σ v1 v2 v3 h; cases h
  | succ n ih =>
    intro σ v1 v2 v3 h
    unfold fX9_yearOfFall_51 at h
    refine r_iload_n (pc := 51) 3 dX9_yearOfFall_51 rfl rfl ?_
    refine r_iload_n (pc := 52) 2 dX9_yearOfFall_52 rfl rfl ?_
    refine r_icmp_gt (pc := 53) 96 dX9_yearOfFall_53 (by decide) h (fun c1 h => ?_) (fun c1 h => ?_)
    · refine r_ldcw (pc := 96) w_391 dX9_yearOfFall_96 ?_
      exact r_iretW (pc := 99) rfl dX9_yearOfFall_99 h
    · refine r_aload_n (pc := 56) 0 dX9_yearOfFall_56 rfl rfl ?_
      refine r_getR (pc := 57) (i := 0) (j := 2) fdRX9_16 nLX_0 kLX_0 (by decide) rfl dX9_yearOfFall_57 ?_
      refine r_aload_n (pc := 60) 0 dX9_yearOfFall_60 rfl rfl ?_
      refine r_getR (pc := 61) (i := 0) (j := 5) fdRX9_21 nLX_0 kLX_0 (by decide) rfl dX9_yearOfFall_61 ?_
      refine r_iconst (pc := 64) dX9_yearOfFall_64 ci_0 ?_
      refine r_aald16 (pc := 65) (i := 5) (0) (36) (by decide) nLX_5 kLX_5 lLX_5 rfl (by decide) dX9_yearOfFall_65 ?_
      refine r_iload_n (pc := 66) 3 dX9_yearOfFall_66 rfl rfl ?_
      refine bo_k h (fun z1 hz1 h => ?_)
      refine r_callV (pc := 67) (i := 36) (As := [.int v3]) (rest := [.ref (xa E 2)]) lkRX9_111 (ceX7_inYear _ _ σ 36 v3 nLX_36 kLX_36 hz1) nLX_36 kLX_36 (by decide) rfl ⟨Nat.le_of_ble_eq_true rfl, Nat.le_of_ble_eq_true rfl⟩ rfl rfl (Nat.le_of_ble_eq_true rfl) dX9_yearOfFall_67 rfl ?_
      refine bo_k h (fun z2 hz2 h => ?_)
      refine r_callV (pc := 70) (i := 2) (As := [.int z1]) (rest := []) lkRX9_256 (ceX2_sufferYear _ _ σ 2 z1 nLX_2 kLX_2 hz2) nLX_2 kLX_2 (by decide) rfl ⟨Nat.le_of_ble_eq_true rfl, Nat.le_of_ble_eq_true rfl⟩ rfl rfl (Nat.le_of_ble_eq_true rfl) dX9_yearOfFall_70 rfl ?_
      refine r_aload_n (pc := 73) 0 dX9_yearOfFall_73 rfl rfl ?_
      refine r_getR (pc := 74) (i := 0) (j := 2) fdRX9_16 nLX_0 kLX_0 (by decide) rfl dX9_yearOfFall_74 ?_
      refine r_getR (pc := 77) (i := 2) (j := 4) fdRX9_85 nLX_2 kLX_2 (by decide) rfl dX9_yearOfFall_77 ?_
      refine r_iload_n (pc := 80) 1 dX9_yearOfFall_80 rfl rfl ?_
      refine inb_k h (fun b1 h => ?_)
      refine r_aald14 (pc := 81) (i := 4) (v1.toNatClampNeg) (rfX 4 v1.toNatClampNeg) rfl nLX_4 kLX_4 lLX_4 rfl b1 dX9_yearOfFall_81 ?_
      refine r_callV (pc := 82) (i := rfX 4 v1.toNatClampNeg) (As := []) (rest := []) lkRX9_89 (ceX0_isFallen _ _ z2 (rfX 4 v1.toNatClampNeg) (elLX_14 nLX_4 kLX_4 (inb_lt b1)).1 (elLX_14 nLX_4 kLX_4 (inb_lt b1)).2 rfl) (elLX_14 nLX_4 kLX_4 (inb_lt b1)).1 (elLX_14 nLX_4 kLX_4 (inb_lt b1)).2 (by decide) rfl ⟨Nat.le_of_ble_eq_true rfl, Nat.le_of_ble_eq_true rfl⟩ rfl rfl (Nat.le_of_ble_eq_true rfl) dX9_yearOfFall_82 rfl ?_
      refine r_if_eq (pc := 85) 90 dX9_yearOfFall_85 (by decide) h (fun c2 h => ?_) (fun c2 h => ?_)
      · refine r_iinc (pc := 90) (v := v3 + 1) (lv' := [(3, .int (v3 + 1)), (0, .ref (xa E 0)), (1, .int v1), (2, .int v2)]) 3 dX9_yearOfFall_90 rfl (by rw [ci_1]) (Nat.le_of_ble_eq_true rfl) rfl ?_
        refine r_goto (pc := 93) 51 dX9_yearOfFall_93 (by decide) ?_
        refine r_sub [1, 2, 3, 0] rfl ?_
        exact ih z2 v1 v2 (v3 + 1) h
      · refine r_iload_n (pc := 88) 3 dX9_yearOfFall_88 rfl rfl ?_
        exact r_iretW (pc := 89) rfl dX9_yearOfFall_89 h
def fX9_yearOfFall (σ : Mem) (v1 : Int32) : Option (Int32 × Mem) :=
  if inb v1 10 = true then
  (if fX0_isFallen σ (rfX 3 v1.toNatClampNeg) = 0 then
    (bo (fX2_becomeLike σ 2 1) (fun z1 =>
    bi ((if 200 < (z1 0 9) + 60 then 200 else (z1 0 9) + 60)) (fun x1 =>
    bi ((z1 0 9) + 1) (fun x2 =>
    fX9_yearOfFall_51 300 z1 v1 x1 x2))))
  else
    (some ((-1000000005), σ)))
  else none
set_option maxHeartbeats 4000000 in
set_option maxRecDepth 20000 in
theorem gX9_yearOfFall (E : XE) {r : Int32 × Mem} (σ : Mem) (v1 : Int32)  (h : fX9_yearOfFall σ v1 = some r) : G E LX qX9_yearOfFall σ 0 [(0, .ref (xa E 0)), (1, .int v1)] [] (some r.1, r.2) := by
  unfold fX9_yearOfFall at h
  refine r_aload_n (pc := 0) 0 dX9_yearOfFall_0 rfl rfl ?_
  refine r_getR (pc := 1) (i := 0) (j := 1) fdRX9_12 nLX_0 kLX_0 (by decide) rfl dX9_yearOfFall_1 ?_
  refine r_getR (pc := 4) (i := 1) (j := 3) fdRX9_85 nLX_1 kLX_1 (by decide) rfl dX9_yearOfFall_4 ?_
  refine r_iload_n (pc := 7) 1 dX9_yearOfFall_7 rfl rfl ?_
  refine inb_k h (fun b1 h => ?_)
  refine r_aald14 (pc := 8) (i := 3) (v1.toNatClampNeg) (rfX 3 v1.toNatClampNeg) rfl nLX_3 kLX_3 lLX_3 rfl b1 dX9_yearOfFall_8 ?_
  refine r_callV (pc := 9) (i := rfX 3 v1.toNatClampNeg) (As := []) (rest := []) lkRX9_89 (ceX0_isFallen _ _ σ (rfX 3 v1.toNatClampNeg) (elLX_14 nLX_3 kLX_3 (inb_lt b1)).1 (elLX_14 nLX_3 kLX_3 (inb_lt b1)).2 rfl) (elLX_14 nLX_3 kLX_3 (inb_lt b1)).1 (elLX_14 nLX_3 kLX_3 (inb_lt b1)).2 (by decide) rfl ⟨Nat.le_of_ble_eq_true rfl, Nat.le_of_ble_eq_true rfl⟩ rfl rfl (Nat.le_of_ble_eq_true rfl) dX9_yearOfFall_9 rfl ?_
  refine r_if_eq (pc := 12) 19 dX9_yearOfFall_12 (by decide) h (fun c1 h => ?_) (fun c1 h => ?_)
  · refine r_aload_n (pc := 19) 0 dX9_yearOfFall_19 rfl rfl ?_
    refine r_getR (pc := 20) (i := 0) (j := 2) fdRX9_16 nLX_0 kLX_0 (by decide) rfl dX9_yearOfFall_20 ?_
    refine r_aload_n (pc := 23) 0 dX9_yearOfFall_23 rfl rfl ?_
    refine r_getR (pc := 24) (i := 0) (j := 1) fdRX9_12 nLX_0 kLX_0 (by decide) rfl dX9_yearOfFall_24 ?_
    refine bo_k h (fun z1 hz1 h => ?_)
    refine r_callV (pc := 27) (i := 2) (As := [.ref (xa E 1)]) (rest := []) lkRX9_281 (ceX2_becomeLike _ _ σ 2 1 nLX_2 kLX_2 nLX_1 kLX_1 hz1) nLX_2 kLX_2 (by decide) rfl ⟨Nat.le_of_ble_eq_true rfl, Nat.le_of_ble_eq_true rfl⟩ rfl rfl (Nat.le_of_ble_eq_true rfl) dX9_yearOfFall_27 rfl ?_
    refine r_aload_n (pc := 30) 0 dX9_yearOfFall_30 rfl rfl ?_
    refine r_getI (pc := 31) (i := 0) fdRX9_108 nLX_0 kLX_0 (by decide) dX9_yearOfFall_31 ?_
    refine r_bipush (pc := 34) dX9_yearOfFall_34 cb_60 ?_
    refine r_iadd (pc := 36) dX9_yearOfFall_36 ?_
    refine r_sipush (pc := 37) dX9_yearOfFall_37 cs_200 ?_
    refine r_min (pc := 40) w_400 w_401 w_62 w_402 ⟨Nat.le_of_ble_eq_true rfl, Nat.le_of_ble_eq_true rfl⟩ dX9_yearOfFall_40 ?_
    refine g_bi h (fun x1 ex1 h => ?_)
    refine r_istore_n (pc := 43) (lv' := [(2, .int x1), (0, .ref (xa E 0)), (1, .int v1)]) dX9_yearOfFall_43 rfl (Nat.le_of_ble_eq_true rfl) rfl ?_
    refine r_aload_n (pc := 44) 1 dX9_yearOfFall_44 rfl rfl ?_
    refine r_getI (pc := 45) (i := 0) fdRX9_108 nLX_0 kLX_0 (by decide) dX9_yearOfFall_45 ?_
    refine r_iconst (pc := 48) dX9_yearOfFall_48 ci_1 ?_
    refine r_iadd (pc := 49) dX9_yearOfFall_49 ?_
    refine g_bi h (fun x2 ex2 h => ?_)
    refine r_istore_n (pc := 50) (lv' := [(3, .int x2), (2, .int x1), (0, .ref (xa E 0)), (1, .int v1)]) dX9_yearOfFall_50 rfl (Nat.le_of_ble_eq_true rfl) rfl ?_
    refine r_sub [2, 3, 1, 0] rfl ?_
    exact gX9_yearOfFall_51 E 300 z1 v1 x1 x2 h
  · refine r_ldcw (pc := 15) w_391 dX9_yearOfFall_15 ?_
    exact r_iretW (pc := 18) rfl dX9_yearOfFall_18 h
theorem ceX9_yearOfFall (l : Launch) (d : SD) (σ : Mem) (v1 : Int32)  {r : Int32 × Mem} (h : fX9_yearOfFall σ v1 = some r) : Me l d LX yX9_yearOfFall qX9_yearOfFall σ [.ref (d.2.2.1 0), .int v1] (some r.1, r.2) := me_of (avs := fun d => [.ref (d.2.2.1 0), .int v1]) (by decide) rfl (Nat.le_of_ble_eq_true rfl) (fun E => gX9_yearOfFall E σ v1  h)
def fX9_about (σ : Mem) (v1 : Int32) (v2 : Int32) : Option (Int32 × Mem) :=
  if fX2_has σ 1 v1 = 0 then
    (some ((-1000000001), σ))
  else
    (if inb v1 10 = true then
    (if v2 = 0 then
      (some (σ (rfX 3 v1.toNatClampNeg) 0, σ))
    else
      if v2 = 1 then
      (some (σ (rfX 3 v1.toNatClampNeg) 1, σ))
    else
      if v2 = 2 then
      (some (σ (rfX 3 v1.toNatClampNeg) 2, σ))
    else
      if v2 = 3 then
      (some (σ (rfX 3 v1.toNatClampNeg) 3, σ))
    else
      if v2 = 4 then
      (if fX0_isFallen σ (rfX 3 v1.toNatClampNeg) = 0 then
        (some (0, σ))
      else
        (some (1, σ)))
    else
      if v2 = 5 then
      (bo (fX7_inYear σ 36 (σ 0 9)) (fun z1 =>
      bo (fX2_blocked σ 1) (fun z2 =>
      some (fX0_loss σ (rfX 3 v1.toNatClampNeg) z1 z2, σ))))
    else
      if v2 = 6 then
      (bo (fX9_yearOfFall σ v1) (fun z3 =>
      some (z3.1, z3.2)))
    else
      if v2 = 7 then
      (some (σ (rfX 3 v1.toNatClampNeg) 4, σ))
    else
      (some ((-1000000001), σ)))
    else none)
set_option maxHeartbeats 4000000 in
set_option maxRecDepth 20000 in
theorem gX9_about (E : XE) {r : Int32 × Mem} (σ : Mem) (v1 : Int32) (v2 : Int32)  (h : fX9_about σ v1 v2 = some r) : G E LX qX9_about σ 0 [(0, .ref (xa E 0)), (1, .int v1), (2, .int v2)] [] (some r.1, r.2) := by
  unfold fX9_about at h
  refine r_aload_n (pc := 0) 0 dX9_about_0 rfl rfl ?_
  refine r_getR (pc := 1) (i := 0) (j := 1) fdRX9_12 nLX_0 kLX_0 (by decide) rfl dX9_about_1 ?_
  refine r_iload_n (pc := 4) 1 dX9_about_4 rfl rfl ?_
  refine r_callV (pc := 5) (i := 1) (As := [.int v1]) (rest := []) lkRX9_81 (ceX2_has _ _ σ 1 v1 nLX_1 kLX_1 rfl) nLX_1 kLX_1 (by decide) rfl ⟨Nat.le_of_ble_eq_true rfl, Nat.le_of_ble_eq_true rfl⟩ rfl rfl (Nat.le_of_ble_eq_true rfl) dX9_about_5 rfl ?_
  refine r_if_ne (pc := 8) 14 dX9_about_8 (by decide) h (fun c1 h => ?_) (fun c1 h => ?_)
  · refine r_ldc (pc := 11) w_336 dX9_about_11 ?_
    exact r_iretW (pc := 13) rfl dX9_about_13 h
  · refine r_aload_n (pc := 14) 0 dX9_about_14 rfl rfl ?_
    refine r_getR (pc := 15) (i := 0) (j := 1) fdRX9_12 nLX_0 kLX_0 (by decide) rfl dX9_about_15 ?_
    refine r_getR (pc := 18) (i := 1) (j := 3) fdRX9_85 nLX_1 kLX_1 (by decide) rfl dX9_about_18 ?_
    refine r_iload_n (pc := 21) 1 dX9_about_21 rfl rfl ?_
    refine inb_k h (fun b1 h => ?_)
    refine r_aald14 (pc := 22) (i := 3) (v1.toNatClampNeg) (rfX 3 v1.toNatClampNeg) rfl nLX_3 kLX_3 lLX_3 rfl b1 dX9_about_22 ?_
    refine r_astore_n (pc := 23) (lv' := [(3, .ref (xa E (rfX 3 v1.toNatClampNeg))), (0, .ref (xa E 0)), (1, .int v1), (2, .int v2)]) dX9_about_23 rfl (Nat.le_of_ble_eq_true rfl) rfl ?_
    refine r_iload_n (pc := 24) 3 dX9_about_24 rfl rfl ?_
    refine ite_k h (fun c2 h => ?_) (fun c2 h => ?_)
    · refine r_tabIn (pc := 25) (off := 47) 72 c2 dX9_about_25 (by decide) (by decide) (by decide) (by decide) ?_
      refine r_aload_n (pc := 72) 0 dX9_about_72 rfl rfl ?_
      refine r_getI (pc := 73) (i := rfX 3 v1.toNatClampNeg) fdRX9_102 (elLX_14 nLX_3 kLX_3 (inb_lt b1)).1 (elLX_14 nLX_3 kLX_3 (inb_lt b1)).2 (by decide) dX9_about_73 ?_
      exact r_iretW (pc := 76) rfl dX9_about_76 h
    refine ite_k h (fun c3 h => ?_) (fun c3 h => ?_)
    · refine r_tabIn (pc := 25) (off := 52) 77 c3 dX9_about_25 (by decide) (by decide) (by decide) (by decide) ?_
      refine r_aload_n (pc := 77) 0 dX9_about_77 rfl rfl ?_
      refine r_getI (pc := 78) (i := rfX 3 v1.toNatClampNeg) fdRX9_105 (elLX_14 nLX_3 kLX_3 (inb_lt b1)).1 (elLX_14 nLX_3 kLX_3 (inb_lt b1)).2 (by decide) dX9_about_78 ?_
      exact r_iretW (pc := 81) rfl dX9_about_81 h
    refine ite_k h (fun c4 h => ?_) (fun c4 h => ?_)
    · refine r_tabIn (pc := 25) (off := 57) 82 c4 dX9_about_25 (by decide) (by decide) (by decide) (by decide) ?_
      refine r_aload_n (pc := 82) 0 dX9_about_82 rfl rfl ?_
      refine r_getI (pc := 83) (i := rfX 3 v1.toNatClampNeg) fdRX9_96 (elLX_14 nLX_3 kLX_3 (inb_lt b1)).1 (elLX_14 nLX_3 kLX_3 (inb_lt b1)).2 (by decide) dX9_about_83 ?_
      exact r_iretW (pc := 86) rfl dX9_about_86 h
    refine ite_k h (fun c5 h => ?_) (fun c5 h => ?_)
    · refine r_tabIn (pc := 25) (off := 62) 87 c5 dX9_about_25 (by decide) (by decide) (by decide) (by decide) ?_
      refine r_aload_n (pc := 87) 0 dX9_about_87 rfl rfl ?_
      refine r_getI (pc := 88) (i := rfX 3 v1.toNatClampNeg) fdRX9_99 (elLX_14 nLX_3 kLX_3 (inb_lt b1)).1 (elLX_14 nLX_3 kLX_3 (inb_lt b1)).2 (by decide) dX9_about_88 ?_
      exact r_iretW (pc := 91) rfl dX9_about_91 h
    refine ite_k h (fun c6 h => ?_) (fun c6 h => ?_)
    · refine r_tabIn (pc := 25) (off := 67) 92 c6 dX9_about_25 (by decide) (by decide) (by decide) (by decide) ?_
      refine r_aload_n (pc := 92) 0 dX9_about_92 rfl rfl ?_
      refine r_callV (pc := 93) (i := rfX 3 v1.toNatClampNeg) (As := []) (rest := []) lkRX9_89 (ceX0_isFallen _ _ σ (rfX 3 v1.toNatClampNeg) (elLX_14 nLX_3 kLX_3 (inb_lt b1)).1 (elLX_14 nLX_3 kLX_3 (inb_lt b1)).2 rfl) (elLX_14 nLX_3 kLX_3 (inb_lt b1)).1 (elLX_14 nLX_3 kLX_3 (inb_lt b1)).2 (by decide) rfl ⟨Nat.le_of_ble_eq_true rfl, Nat.le_of_ble_eq_true rfl⟩ rfl rfl (Nat.le_of_ble_eq_true rfl) dX9_about_93 rfl ?_
      refine r_if_eq (pc := 96) 103 dX9_about_96 (by decide) h (fun c7 h => ?_) (fun c7 h => ?_)
      · refine r_iconst (pc := 103) dX9_about_103 ci_0 ?_
        exact r_iretW (pc := 104) rfl dX9_about_104 h
      · refine r_iconst (pc := 99) dX9_about_99 ci_1 ?_
        refine r_goto (pc := 100) 104 dX9_about_100 (by decide) ?_
        exact r_iretW (pc := 104) rfl dX9_about_104 h
    refine ite_k h (fun c8 h => ?_) (fun c8 h => ?_)
    · refine r_tabIn (pc := 25) (off := 80) 105 c8 dX9_about_25 (by decide) (by decide) (by decide) (by decide) ?_
      refine r_aload_n (pc := 105) 0 dX9_about_105 rfl rfl ?_
      refine r_aload_n (pc := 106) 1 dX9_about_106 rfl rfl ?_
      refine r_getR (pc := 107) (i := 0) (j := 5) fdRX9_21 nLX_0 kLX_0 (by decide) rfl dX9_about_107 ?_
      refine r_iconst (pc := 110) dX9_about_110 ci_0 ?_
      refine r_aald16 (pc := 111) (i := 5) (0) (36) (by decide) nLX_5 kLX_5 lLX_5 rfl (by decide) dX9_about_111 ?_
      refine r_aload_n (pc := 112) 1 dX9_about_112 rfl rfl ?_
      refine r_getI (pc := 113) (i := 0) fdRX9_108 nLX_0 kLX_0 (by decide) dX9_about_113 ?_
      refine bo_k h (fun z1 hz1 h => ?_)
      refine r_callV (pc := 116) (i := 36) (As := [.int (σ 0 9)]) (rest := [.ref (xa E (rfX 3 v1.toNatClampNeg))]) lkRX9_111 (ceX7_inYear _ _ σ 36 (σ 0 9) nLX_36 kLX_36 hz1) nLX_36 kLX_36 (by decide) rfl ⟨Nat.le_of_ble_eq_true rfl, Nat.le_of_ble_eq_true rfl⟩ rfl rfl (Nat.le_of_ble_eq_true rfl) dX9_about_116 rfl ?_
      refine r_aload_n (pc := 119) 1 dX9_about_119 rfl rfl ?_
      refine r_getR (pc := 120) (i := 0) (j := 1) fdRX9_12 nLX_0 kLX_0 (by decide) rfl dX9_about_120 ?_
      refine bo_k h (fun z2 hz2 h => ?_)
      refine r_callV (pc := 123) (i := 1) (As := []) (rest := [.int z1, .ref (xa E (rfX 3 v1.toNatClampNeg))]) lkRX9_114 (ceX2_blocked _ _ σ 1 nLX_1 kLX_1 hz2) nLX_1 kLX_1 (by decide) rfl ⟨Nat.le_of_ble_eq_true rfl, Nat.le_of_ble_eq_true rfl⟩ rfl rfl (Nat.le_of_ble_eq_true rfl) dX9_about_123 rfl ?_
      refine r_callV (pc := 126) (i := rfX 3 v1.toNatClampNeg) (As := [.int z1, .int z2]) (rest := []) lkRX9_118 (ceX0_loss _ _ σ (rfX 3 v1.toNatClampNeg) z1 z2 (elLX_14 nLX_3 kLX_3 (inb_lt b1)).1 (elLX_14 nLX_3 kLX_3 (inb_lt b1)).2 rfl) (elLX_14 nLX_3 kLX_3 (inb_lt b1)).1 (elLX_14 nLX_3 kLX_3 (inb_lt b1)).2 (by decide) rfl ⟨Nat.le_of_ble_eq_true rfl, Nat.le_of_ble_eq_true rfl⟩ rfl rfl (Nat.le_of_ble_eq_true rfl) dX9_about_126 rfl ?_
      exact r_iretW (pc := 129) rfl dX9_about_129 h
    refine ite_k h (fun c9 h => ?_) (fun c9 h => ?_)
    · refine r_tabIn (pc := 25) (off := 105) 130 c9 dX9_about_25 (by decide) (by decide) (by decide) (by decide) ?_
      refine r_aload_n (pc := 130) 1 dX9_about_130 rfl rfl ?_
      refine r_iload_n (pc := 131) 2 dX9_about_131 rfl rfl ?_
      refine bo_k h (fun z3 hz3 h => ?_)
      refine r_callV (pc := 132) (i := 0) (As := [.int v1]) (rest := []) lkRX9_122 (ceX9_yearOfFall _ _ σ v1 hz3) nLX_0 kLX_0 (by decide) rfl ⟨Nat.le_of_ble_eq_true rfl, Nat.le_of_ble_eq_true rfl⟩ rfl rfl (Nat.le_of_ble_eq_true rfl) dX9_about_132 rfl ?_
      exact r_iretW (pc := 135) rfl dX9_about_135 h
    refine ite_k h (fun c10 h => ?_) (fun c10 h => ?_)
    · refine r_tabIn (pc := 25) (off := 111) 136 c10 dX9_about_25 (by decide) (by decide) (by decide) (by decide) ?_
      refine r_aload_n (pc := 136) 0 dX9_about_136 rfl rfl ?_
      refine r_getI (pc := 137) (i := rfX 3 v1.toNatClampNeg) fdRX9_125 (elLX_14 nLX_3 kLX_3 (inb_lt b1)).1 (elLX_14 nLX_3 kLX_3 (inb_lt b1)).2 (by decide) dX9_about_137 ?_
      exact r_iretW (pc := 140) rfl dX9_about_140 h
    refine r_tabOut (pc := 25) 141 dX9_about_25 (by have ec2 := ti_ne (z := 0) c2 (by decide); have ec3 := ti_ne (z := 1) c3 (by decide); have ec4 := ti_ne (z := 2) c4 (by decide); have ec5 := ti_ne (z := 3) c5 (by decide); have ec6 := ti_ne (z := 4) c6 (by decide); have ec8 := ti_ne (z := 5) c8 (by decide); have ec9 := ti_ne (z := 6) c9 (by decide); have ec10 := ti_ne (z := 7) c10 (by decide); omega) (by decide) ?_
    refine r_ldc (pc := 141) w_336 dX9_about_141 ?_
    exact r_iretW (pc := 143) rfl dX9_about_143 h
theorem ceX9_about (l : Launch) (d : SD) (σ : Mem) (v1 : Int32) (v2 : Int32)  {r : Int32 × Mem} (h : fX9_about σ v1 v2 = some r) : Me l d LX yX9_about qX9_about σ [.ref (d.2.2.1 0), .int v1, .int v2] (some r.1, r.2) := me_of (avs := fun d => [.ref (d.2.2.1 0), .int v1, .int v2]) (by decide) rfl (Nat.le_of_ble_eq_true rfl) (fun E => gX9_about E σ v1 v2  h)
def fX9_isOf (σ : Mem) (v1 : Int32) (v2 : Int32) : Option Int32 :=
  if fX2_has σ 1 v1 = 0 then
    (some ((-1000000001)))
  else
    (if fX9_isWithin σ v2 0 3 = 0 then
      (some ((-1000000001)))
    else
      (if inb v1 10 = true then
      (if fX0_isKind σ (rfX 3 v1.toNatClampNeg) v2 = 0 then
        (some (0))
      else
        (some (1)))
      else none))
set_option maxHeartbeats 4000000 in
set_option maxRecDepth 20000 in
theorem gX9_isOf (E : XE) {r : Int32} (σ : Mem) (v1 : Int32) (v2 : Int32)  (h : fX9_isOf σ v1 v2 = some r) : G E LX qX9_isOf σ 0 [(0, .ref (xa E 0)), (1, .int v1), (2, .int v2)] [] (some r, σ) := by
  unfold fX9_isOf at h
  refine r_aload_n (pc := 0) 0 dX9_isOf_0 rfl rfl ?_
  refine r_getR (pc := 1) (i := 0) (j := 1) fdRX9_12 nLX_0 kLX_0 (by decide) rfl dX9_isOf_1 ?_
  refine r_iload_n (pc := 4) 1 dX9_isOf_4 rfl rfl ?_
  refine r_callV (pc := 5) (i := 1) (As := [.int v1]) (rest := []) lkRX9_81 (ceX2_has _ _ σ 1 v1 nLX_1 kLX_1 rfl) nLX_1 kLX_1 (by decide) rfl ⟨Nat.le_of_ble_eq_true rfl, Nat.le_of_ble_eq_true rfl⟩ rfl rfl (Nat.le_of_ble_eq_true rfl) dX9_isOf_5 rfl ?_
  refine r_if_eq (pc := 8) 20 dX9_isOf_8 (by decide) h (fun c1 h => ?_) (fun c1 h => ?_)
  · refine r_ldc (pc := 20) w_336 dX9_isOf_20 ?_
    exact r_iret (pc := 22) rfl dX9_isOf_22 (Option.some.inj h) rfl
  · refine r_iload_n (pc := 11) 2 dX9_isOf_11 rfl rfl ?_
    refine r_iconst (pc := 12) dX9_isOf_12 ci_0 ?_
    refine r_iconst (pc := 13) dX9_isOf_13 ci_3 ?_
    refine r_callS (pc := 14) (As := [.int v2, .int 0, .int 3]) (rest := []) lkRX9_67 (ceX9_isWithin _ _ σ v2 0 3 rfl) ⟨Nat.le_of_ble_eq_true rfl, Nat.le_of_ble_eq_true rfl⟩ rfl rfl (Nat.le_of_ble_eq_true rfl) dX9_isOf_14 rfl ?_
    refine r_if_ne (pc := 17) 23 dX9_isOf_17 (by decide) h (fun c2 h => ?_) (fun c2 h => ?_)
    · refine r_ldc (pc := 20) w_336 dX9_isOf_20 ?_
      exact r_iret (pc := 22) rfl dX9_isOf_22 (Option.some.inj h) rfl
    · refine r_aload_n (pc := 23) 0 dX9_isOf_23 rfl rfl ?_
      refine r_getR (pc := 24) (i := 0) (j := 1) fdRX9_12 nLX_0 kLX_0 (by decide) rfl dX9_isOf_24 ?_
      refine r_getR (pc := 27) (i := 1) (j := 3) fdRX9_85 nLX_1 kLX_1 (by decide) rfl dX9_isOf_27 ?_
      refine r_iload_n (pc := 30) 1 dX9_isOf_30 rfl rfl ?_
      refine inb_k h (fun b1 h => ?_)
      refine r_aald14 (pc := 31) (i := 3) (v1.toNatClampNeg) (rfX 3 v1.toNatClampNeg) rfl nLX_3 kLX_3 lLX_3 rfl b1 dX9_isOf_31 ?_
      refine r_iload_n (pc := 32) 2 dX9_isOf_32 rfl rfl ?_
      refine r_callV (pc := 33) (i := rfX 3 v1.toNatClampNeg) (As := [.int v2]) (rest := []) lkRX9_128 (ceX0_isKind _ _ σ (rfX 3 v1.toNatClampNeg) v2 (elLX_14 nLX_3 kLX_3 (inb_lt b1)).1 (elLX_14 nLX_3 kLX_3 (inb_lt b1)).2 rfl) (elLX_14 nLX_3 kLX_3 (inb_lt b1)).1 (elLX_14 nLX_3 kLX_3 (inb_lt b1)).2 (by decide) rfl ⟨Nat.le_of_ble_eq_true rfl, Nat.le_of_ble_eq_true rfl⟩ rfl rfl (Nat.le_of_ble_eq_true rfl) dX9_isOf_33 rfl ?_
      refine r_if_eq (pc := 36) 43 dX9_isOf_36 (by decide) h (fun c3 h => ?_) (fun c3 h => ?_)
      · refine r_iconst (pc := 43) dX9_isOf_43 ci_0 ?_
        exact r_iret (pc := 44) rfl dX9_isOf_44 (Option.some.inj h) rfl
      · refine r_iconst (pc := 39) dX9_isOf_39 ci_1 ?_
        refine r_goto (pc := 40) 44 dX9_isOf_40 (by decide) ?_
        exact r_iret (pc := 44) rfl dX9_isOf_44 (Option.some.inj h) rfl
theorem ceX9_isOf (l : Launch) (d : SD) (σ : Mem) (v1 : Int32) (v2 : Int32)  {r : Int32} (h : fX9_isOf σ v1 v2 = some r) : Me l d LX yX9_isOf qX9_isOf σ [.ref (d.2.2.1 0), .int v1, .int v2] (some r, σ) := me_of (avs := fun d => [.ref (d.2.2.1 0), .int v1, .int v2]) (by decide) rfl (Nat.le_of_ble_eq_true rfl) (fun E => gX9_isOf E σ v1 v2  h)
def fX9_isSheet (σ : Mem) (v0 : Int32) : Int32 :=
  fX9_isWithin σ v0 0 3
set_option maxHeartbeats 4000000 in
set_option maxRecDepth 20000 in
theorem gX9_isSheet (E : XE) {r : Int32} (σ : Mem) (v0 : Int32)  (h : fX9_isSheet σ v0 = r) : G E LX qX9_isSheet σ 0 [(0, .int v0)] [] (some r, σ) := by
  unfold fX9_isSheet at h
  refine r_iload_n (pc := 0) 0 dX9_isSheet_0 rfl rfl ?_
  refine r_iconst (pc := 1) dX9_isSheet_1 ci_0 ?_
  refine r_iconst (pc := 2) dX9_isSheet_2 ci_3 ?_
  refine r_callS (pc := 3) (As := [.int v0, .int 0, .int 3]) (rest := []) lkRX9_67 (ceX9_isWithin _ _ σ v0 0 3 rfl) ⟨Nat.le_of_ble_eq_true rfl, Nat.le_of_ble_eq_true rfl⟩ rfl rfl (Nat.le_of_ble_eq_true rfl) dX9_isSheet_3 rfl ?_
  exact r_zret (pc := 6) rfl (nbX9_isWithin) dX9_isSheet_6 h rfl
theorem ceX9_isSheet (l : Launch) (d : SD) (σ : Mem) (v0 : Int32)  {r : Int32} (h : fX9_isSheet σ v0 = r) : Me l d LX yX9_isSheet qX9_isSheet σ [.int v0] (some r, σ) := me_of (avs := fun d => [.int v0]) (by decide) rfl (Nat.le_of_ble_eq_true rfl) (fun E => gX9_isSheet E σ v0  h)
theorem nbX9_isSheet {σ : Mem} {v0 : Int32} : narrow .boolean (.int (fX9_isSheet σ v0)) = .int (fX9_isSheet σ v0) := by unfold fX9_isSheet; exact nbX9_isWithin
def fX9_sheet (σ : Mem) (v1 : Int32) (v2 : Int32) (v3 : Int32) : Option (Int32 × Mem) :=
  if fX9_isSheet σ v1 = 0 then
    (some ((-1000000001), σ))
  else
    (if fX9_isWithin σ v2 0 2 = 0 then
      (some ((-1000000001), σ))
    else
      (if v3 ≤ 200 then
        (if 0 ≤ v3 then
          (if inb v1 4 = true then
          (bo (fX7_begin σ (rfX 5 v1.toNatClampNeg) v2 v3) (fun z1 =>
          some (v3, z1)))
          else none)
        else
          (some ((-1000000014), σ)))
      else
        (some ((-1000000001), σ))))
set_option maxHeartbeats 4000000 in
set_option maxRecDepth 20000 in
theorem gX9_sheet (E : XE) {r : Int32 × Mem} (σ : Mem) (v1 : Int32) (v2 : Int32) (v3 : Int32)  (h : fX9_sheet σ v1 v2 v3 = some r) : G E LX qX9_sheet σ 0 [(0, .ref (xa E 0)), (1, .int v1), (2, .int v2), (3, .int v3)] [] (some r.1, r.2) := by
  unfold fX9_sheet at h
  refine r_iload_n (pc := 0) 1 dX9_sheet_0 rfl rfl ?_
  refine r_callS (pc := 1) (As := [.int v1]) (rest := []) lkRX9_131 (ceX9_isSheet _ _ σ v1 rfl) ⟨Nat.le_of_ble_eq_true rfl, Nat.le_of_ble_eq_true rfl⟩ rfl rfl (Nat.le_of_ble_eq_true rfl) dX9_sheet_1 rfl ?_
  refine r_if_eq (pc := 4) 23 dX9_sheet_4 (by decide) h (fun c1 h => ?_) (fun c1 h => ?_)
  · refine r_ldc (pc := 23) w_336 dX9_sheet_23 ?_
    exact r_iretW (pc := 25) rfl dX9_sheet_25 h
  · refine r_iload_n (pc := 7) 2 dX9_sheet_7 rfl rfl ?_
    refine r_iconst (pc := 8) dX9_sheet_8 ci_0 ?_
    refine r_iconst (pc := 9) dX9_sheet_9 ci_2 ?_
    refine r_callS (pc := 10) (As := [.int v2, .int 0, .int 2]) (rest := []) lkRX9_67 (ceX9_isWithin _ _ σ v2 0 2 rfl) ⟨Nat.le_of_ble_eq_true rfl, Nat.le_of_ble_eq_true rfl⟩ rfl rfl (Nat.le_of_ble_eq_true rfl) dX9_sheet_10 rfl ?_
    refine r_if_eq (pc := 13) 23 dX9_sheet_13 (by decide) h (fun c2 h => ?_) (fun c2 h => ?_)
    · refine r_ldc (pc := 23) w_336 dX9_sheet_23 ?_
      exact r_iretW (pc := 25) rfl dX9_sheet_25 h
    · refine r_iload_n (pc := 16) 3 dX9_sheet_16 rfl rfl ?_
      refine r_sipush (pc := 17) dX9_sheet_17 cs_200 ?_
      refine r_icmp_le (pc := 20) 26 dX9_sheet_20 (by decide) h (fun c3 h => ?_) (fun c3 h => ?_)
      · refine r_iload_n (pc := 26) 3 dX9_sheet_26 rfl rfl ?_
        refine r_if_ge (pc := 27) 33 dX9_sheet_27 (by decide) h (fun c4 h => ?_) (fun c4 h => ?_)
        · refine r_aload_n (pc := 33) 0 dX9_sheet_33 rfl rfl ?_
          refine r_getR (pc := 34) (i := 0) (j := 5) fdRX9_21 nLX_0 kLX_0 (by decide) rfl dX9_sheet_34 ?_
          refine r_iload_n (pc := 37) 1 dX9_sheet_37 rfl rfl ?_
          refine inb_k h (fun b1 h => ?_)
          refine r_aald16 (pc := 38) (i := 5) (v1.toNatClampNeg) (rfX 5 v1.toNatClampNeg) rfl nLX_5 kLX_5 lLX_5 rfl b1 dX9_sheet_38 ?_
          refine r_iload_n (pc := 39) 2 dX9_sheet_39 rfl rfl ?_
          refine r_iload_n (pc := 40) 3 dX9_sheet_40 rfl rfl ?_
          refine bo_k h (fun z1 hz1 h => ?_)
          refine r_callV (pc := 41) (i := rfX 5 v1.toNatClampNeg) (As := [.int v2, .int v3]) (rest := []) lkRX9_135 (ceX7_begin _ _ σ (rfX 5 v1.toNatClampNeg) v2 v3 (elLX_16 nLX_5 kLX_5 (inb_lt b1)).1 (elLX_16 nLX_5 kLX_5 (inb_lt b1)).2 hz1) (elLX_16 nLX_5 kLX_5 (inb_lt b1)).1 (elLX_16 nLX_5 kLX_5 (inb_lt b1)).2 (by decide) rfl ⟨Nat.le_of_ble_eq_true rfl, Nat.le_of_ble_eq_true rfl⟩ rfl rfl (Nat.le_of_ble_eq_true rfl) dX9_sheet_41 rfl ?_
          refine r_iload_n (pc := 44) 3 dX9_sheet_44 rfl rfl ?_
          exact r_iretW (pc := 45) rfl dX9_sheet_45 h
        · refine r_ldc (pc := 30) w_431 dX9_sheet_30 ?_
          exact r_iretW (pc := 32) rfl dX9_sheet_32 h
      · refine r_ldc (pc := 23) w_336 dX9_sheet_23 ?_
        exact r_iretW (pc := 25) rfl dX9_sheet_25 h
theorem ceX9_sheet (l : Launch) (d : SD) (σ : Mem) (v1 : Int32) (v2 : Int32) (v3 : Int32)  {r : Int32 × Mem} (h : fX9_sheet σ v1 v2 v3 = some r) : Me l d LX yX9_sheet qX9_sheet σ [.ref (d.2.2.1 0), .int v1, .int v2, .int v3] (some r.1, r.2) := me_of (avs := fun d => [.ref (d.2.2.1 0), .int v1, .int v2, .int v3]) (by decide) rfl (Nat.le_of_ble_eq_true rfl) (fun E => gX9_sheet E σ v1 v2 v3  h)
def fX9_enter (σ : Mem) (v1 : Int32) (v2 : Int32) (v3 : Int32) : Option (Int32 × Mem) :=
  if fX9_isSheet σ v1 = 0 then
    (some ((-1000000001), σ))
  else
    (if inb v1 4 = true then
    (if σ (rfX 5 v1.toNatClampNeg) 1 = 0 then
      (if fX9_isWithin σ v2 0 ((σ (rfX 5 v1.toNatClampNeg) 3) - 1) = 0 then
        (some ((-1000000013), σ))
      else
        (if fX9_isWithin σ v3 0 (fX7_mostInPlace σ (rfX 5 v1.toNatClampNeg)) = 0 then
          (some ((-1000000001), σ))
        else
          (bo (fX7_write σ (rfX 5 v1.toNatClampNeg) v2 v3) (fun z1 =>
          some (z1.1, z1.2)))))
    else
      (some ((-1000000011), σ)))
    else none)
set_option maxHeartbeats 4000000 in
set_option maxRecDepth 20000 in
theorem gX9_enter (E : XE) {r : Int32 × Mem} (σ : Mem) (v1 : Int32) (v2 : Int32) (v3 : Int32)  (h : fX9_enter σ v1 v2 v3 = some r) : G E LX qX9_enter σ 0 [(0, .ref (xa E 0)), (1, .int v1), (2, .int v2), (3, .int v3)] [] (some r.1, r.2) := by
  unfold fX9_enter at h
  refine r_iload_n (pc := 0) 1 dX9_enter_0 rfl rfl ?_
  refine r_callS (pc := 1) (As := [.int v1]) (rest := []) lkRX9_131 (ceX9_isSheet _ _ σ v1 rfl) ⟨Nat.le_of_ble_eq_true rfl, Nat.le_of_ble_eq_true rfl⟩ rfl rfl (Nat.le_of_ble_eq_true rfl) dX9_enter_1 rfl ?_
  refine r_if_ne (pc := 4) 10 dX9_enter_4 (by decide) h (fun c1 h => ?_) (fun c1 h => ?_)
  · refine r_ldc (pc := 7) w_336 dX9_enter_7 ?_
    exact r_iretW (pc := 9) rfl dX9_enter_9 h
  · refine r_aload_n (pc := 10) 0 dX9_enter_10 rfl rfl ?_
    refine r_getR (pc := 11) (i := 0) (j := 5) fdRX9_21 nLX_0 kLX_0 (by decide) rfl dX9_enter_11 ?_
    refine r_iload_n (pc := 14) 1 dX9_enter_14 rfl rfl ?_
    refine inb_k h (fun b1 h => ?_)
    refine r_aald16 (pc := 15) (i := 5) (v1.toNatClampNeg) (rfX 5 v1.toNatClampNeg) rfl nLX_5 kLX_5 lLX_5 rfl b1 dX9_enter_15 ?_
    refine r_astore (pc := 16) (lv' := [(4, .ref (xa E (rfX 5 v1.toNatClampNeg))), (0, .ref (xa E 0)), (1, .int v1), (2, .int v2), (3, .int v3)]) dX9_enter_16 (Nat.le_of_ble_eq_true rfl) rfl ?_
    refine r_aload (pc := 18) 0 dX9_enter_18 rfl ?_
    refine r_getI (pc := 20) (i := rfX 5 v1.toNatClampNeg) fdRX9_139 (elLX_16 nLX_5 kLX_5 (inb_lt b1)).1 (elLX_16 nLX_5 kLX_5 (inb_lt b1)).2 (by decide) dX9_enter_20 ?_
    refine r_if_eq (pc := 23) 29 dX9_enter_23 (by decide) h (fun c2 h => ?_) (fun c2 h => ?_)
    · refine r_iload_n (pc := 29) 3 dX9_enter_29 rfl rfl ?_
      refine r_iconst (pc := 30) dX9_enter_30 ci_0 ?_
      refine r_aload (pc := 31) 0 dX9_enter_31 rfl ?_
      refine r_getI (pc := 33) (i := rfX 5 v1.toNatClampNeg) fdRX9_144 (elLX_16 nLX_5 kLX_5 (inb_lt b1)).1 (elLX_16 nLX_5 kLX_5 (inb_lt b1)).2 (by decide) dX9_enter_33 ?_
      refine r_iconst (pc := 36) dX9_enter_36 ci_1 ?_
      refine r_isub (pc := 37) dX9_enter_37 ?_
      refine r_callS (pc := 38) (As := [.int v2, .int 0, .int ((σ (rfX 5 v1.toNatClampNeg) 3) - 1)]) (rest := []) lkRX9_67 (ceX9_isWithin _ _ σ v2 0 ((σ (rfX 5 v1.toNatClampNeg) 3) - 1) rfl) ⟨Nat.le_of_ble_eq_true rfl, Nat.le_of_ble_eq_true rfl⟩ rfl rfl (Nat.le_of_ble_eq_true rfl) dX9_enter_38 rfl ?_
      refine r_if_ne (pc := 41) 47 dX9_enter_41 (by decide) h (fun c3 h => ?_) (fun c3 h => ?_)
      · refine r_ldc (pc := 44) w_441 dX9_enter_44 ?_
        exact r_iretW (pc := 46) rfl dX9_enter_46 h
      · refine r_iload_n (pc := 47) 4 dX9_enter_47 rfl rfl ?_
        refine r_iconst (pc := 48) dX9_enter_48 ci_0 ?_
        refine r_aload (pc := 49) 0 dX9_enter_49 rfl ?_
        refine r_callV (pc := 51) (i := rfX 5 v1.toNatClampNeg) (As := []) (rest := [.int 0, .int v3]) lkRX9_146 (ceX7_mostInPlace _ _ σ (rfX 5 v1.toNatClampNeg) (elLX_16 nLX_5 kLX_5 (inb_lt b1)).1 (elLX_16 nLX_5 kLX_5 (inb_lt b1)).2 rfl) (elLX_16 nLX_5 kLX_5 (inb_lt b1)).1 (elLX_16 nLX_5 kLX_5 (inb_lt b1)).2 (by decide) rfl ⟨Nat.le_of_ble_eq_true rfl, Nat.le_of_ble_eq_true rfl⟩ rfl rfl (Nat.le_of_ble_eq_true rfl) dX9_enter_51 rfl ?_
        refine r_callS (pc := 54) (As := [.int v3, .int 0, .int (fX7_mostInPlace σ (rfX 5 v1.toNatClampNeg))]) (rest := []) lkRX9_67 (ceX9_isWithin _ _ σ v3 0 (fX7_mostInPlace σ (rfX 5 v1.toNatClampNeg)) rfl) ⟨Nat.le_of_ble_eq_true rfl, Nat.le_of_ble_eq_true rfl⟩ rfl rfl (Nat.le_of_ble_eq_true rfl) dX9_enter_54 rfl ?_
        refine r_if_eq (pc := 57) 70 dX9_enter_57 (by decide) h (fun c4 h => ?_) (fun c4 h => ?_)
        · refine r_ldc (pc := 70) w_336 dX9_enter_70 ?_
          exact r_iretW (pc := 72) rfl dX9_enter_72 h
        · refine r_aload (pc := 60) 0 dX9_enter_60 rfl ?_
          refine r_iload_n (pc := 62) 3 dX9_enter_62 rfl rfl ?_
          refine r_iload_n (pc := 63) 4 dX9_enter_63 rfl rfl ?_
          refine bo_k h (fun z1 hz1 h => ?_)
          refine r_callV (pc := 64) (i := rfX 5 v1.toNatClampNeg) (As := [.int v2, .int v3]) (rest := []) lkRX9_149 (ceX7_write _ _ σ (rfX 5 v1.toNatClampNeg) v2 v3 (elLX_16 nLX_5 kLX_5 (inb_lt b1)).1 (elLX_16 nLX_5 kLX_5 (inb_lt b1)).2 hz1) (elLX_16 nLX_5 kLX_5 (inb_lt b1)).1 (elLX_16 nLX_5 kLX_5 (inb_lt b1)).2 (by decide) rfl ⟨Nat.le_of_ble_eq_true rfl, Nat.le_of_ble_eq_true rfl⟩ rfl rfl (Nat.le_of_ble_eq_true rfl) dX9_enter_64 rfl ?_
          refine r_goto (pc := 67) 72 dX9_enter_67 (by decide) ?_
          exact r_iretW (pc := 72) rfl dX9_enter_72 h
    · refine r_ldc (pc := 26) w_440 dX9_enter_26 ?_
      exact r_iretW (pc := 28) rfl dX9_enter_28 h
theorem ceX9_enter (l : Launch) (d : SD) (σ : Mem) (v1 : Int32) (v2 : Int32) (v3 : Int32)  {r : Int32 × Mem} (h : fX9_enter σ v1 v2 v3 = some r) : Me l d LX yX9_enter qX9_enter σ [.ref (d.2.2.1 0), .int v1, .int v2, .int v3] (some r.1, r.2) := me_of (avs := fun d => [.ref (d.2.2.1 0), .int v1, .int v2, .int v3]) (by decide) rfl (Nat.le_of_ble_eq_true rfl) (fun E => gX9_enter E σ v1 v2 v3  h)
def fX9_copy (σ : Mem) (v1 : Int32) (v2 : Int32) (v3 : Int32) (v4 : Int32) (v5 : Int32) : Option (Int32 × Mem) :=
  if fX9_isSheet σ v1 = 0 then
    (some ((-1000000001), σ))
  else
    (if fX9_isSheet σ v3 = 0 then
      (some ((-1000000001), σ))
    else
      (if inb v1 4 = true then
      (if inb v3 4 = true then
      (if σ (rfX 5 v1.toNatClampNeg) 1 = 0 then
        (if σ (rfX 5 v3.toNatClampNeg) 1 = 0 then
          (if σ (rfX 5 v1.toNatClampNeg) 2 = σ (rfX 5 v3.toNatClampNeg) 2 then
            (if fX7_hasPlaces σ (rfX 5 v1.toNatClampNeg) v2 v5 = 0 then
              (some ((-1000000013), σ))
            else
              (if fX7_hasPlaces σ (rfX 5 v3.toNatClampNeg) v4 v5 = 0 then
                (some ((-1000000013), σ))
              else
                (if cpok v2 v4 v5 200 200 = true then
                (bm (mcpy σ (rfX (rfX 5 v1.toNatClampNeg) 0) (rfX (rfX 5 v3.toNatClampNeg) 0) v2 v4 v5) (fun m1 =>
                some (v5, m1)))
                else none)))
          else
            (some ((-1000000002), σ)))
        else
          (some ((-1000000011), σ)))
      else
        (some ((-1000000011), σ)))
      else none)
      else none))
set_option maxHeartbeats 4000000 in
set_option maxRecDepth 20000 in
theorem gX9_copy (E : XE) {r : Int32 × Mem} (σ : Mem) (v1 : Int32) (v2 : Int32) (v3 : Int32) (v4 : Int32) (v5 : Int32)  (h : fX9_copy σ v1 v2 v3 v4 v5 = some r) : G E LX qX9_copy σ 0 [(0, .ref (xa E 0)), (1, .int v1), (2, .int v2), (3, .int v3), (4, .int v4), (5, .int v5)] [] (some r.1, r.2) := by
  unfold fX9_copy at h
  refine r_iload_n (pc := 0) 1 dX9_copy_0 rfl rfl ?_
  refine r_callS (pc := 1) (As := [.int v1]) (rest := []) lkRX9_131 (ceX9_isSheet _ _ σ v1 rfl) ⟨Nat.le_of_ble_eq_true rfl, Nat.le_of_ble_eq_true rfl⟩ rfl rfl (Nat.le_of_ble_eq_true rfl) dX9_copy_1 rfl ?_
  refine r_if_eq (pc := 4) 14 dX9_copy_4 (by decide) h (fun c1 h => ?_) (fun c1 h => ?_)
  · refine r_ldc (pc := 14) w_336 dX9_copy_14 ?_
    exact r_iretW (pc := 16) rfl dX9_copy_16 h
  · refine r_iload_n (pc := 7) 3 dX9_copy_7 rfl rfl ?_
    refine r_callS (pc := 8) (As := [.int v3]) (rest := []) lkRX9_131 (ceX9_isSheet _ _ σ v3 rfl) ⟨Nat.le_of_ble_eq_true rfl, Nat.le_of_ble_eq_true rfl⟩ rfl rfl (Nat.le_of_ble_eq_true rfl) dX9_copy_8 rfl ?_
    refine r_if_ne (pc := 11) 17 dX9_copy_11 (by decide) h (fun c2 h => ?_) (fun c2 h => ?_)
    · refine r_ldc (pc := 14) w_336 dX9_copy_14 ?_
      exact r_iretW (pc := 16) rfl dX9_copy_16 h
    · refine r_aload_n (pc := 17) 0 dX9_copy_17 rfl rfl ?_
      refine r_getR (pc := 18) (i := 0) (j := 5) fdRX9_21 nLX_0 kLX_0 (by decide) rfl dX9_copy_18 ?_
      refine r_iload_n (pc := 21) 1 dX9_copy_21 rfl rfl ?_
      refine inb_k h (fun b1 h => ?_)
      refine r_aald16 (pc := 22) (i := 5) (v1.toNatClampNeg) (rfX 5 v1.toNatClampNeg) rfl nLX_5 kLX_5 lLX_5 rfl b1 dX9_copy_22 ?_
      refine r_astore (pc := 23) (lv' := [(6, .ref (xa E (rfX 5 v1.toNatClampNeg))), (0, .ref (xa E 0)), (1, .int v1), (2, .int v2), (3, .int v3), (4, .int v4), (5, .int v5)]) dX9_copy_23 (Nat.le_of_ble_eq_true rfl) rfl ?_
      refine r_aload_n (pc := 25) 1 dX9_copy_25 rfl rfl ?_
      refine r_getR (pc := 26) (i := 0) (j := 5) fdRX9_21 nLX_0 kLX_0 (by decide) rfl dX9_copy_26 ?_
      refine r_iload_n (pc := 29) 4 dX9_copy_29 rfl rfl ?_
      refine inb_k h (fun b2 h => ?_)
      refine r_aald16 (pc := 30) (i := 5) (v3.toNatClampNeg) (rfX 5 v3.toNatClampNeg) rfl nLX_5 kLX_5 lLX_5 rfl b2 dX9_copy_30 ?_
      refine r_astore (pc := 31) (lv' := [(7, .ref (xa E (rfX 5 v3.toNatClampNeg))), (6, .ref (xa E (rfX 5 v1.toNatClampNeg))), (0, .ref (xa E 0)), (1, .int v1), (2, .int v2), (3, .int v3), (4, .int v4), (5, .int v5)]) dX9_copy_31 (Nat.le_of_ble_eq_true rfl) rfl ?_
      refine r_aload (pc := 33) 1 dX9_copy_33 rfl ?_
      refine r_getI (pc := 35) (i := rfX 5 v1.toNatClampNeg) fdRX9_139 (elLX_16 nLX_5 kLX_5 (inb_lt b1)).1 (elLX_16 nLX_5 kLX_5 (inb_lt b1)).2 (by decide) dX9_copy_35 ?_
      refine r_if_ne (pc := 38) 49 dX9_copy_38 (by decide) h (fun c3 h => ?_) (fun c3 h => ?_)
      · refine r_aload (pc := 41) 0 dX9_copy_41 rfl ?_
        refine r_getI (pc := 43) (i := rfX 5 v3.toNatClampNeg) fdRX9_139 (elLX_16 nLX_5 kLX_5 (inb_lt b2)).1 (elLX_16 nLX_5 kLX_5 (inb_lt b2)).2 (by decide) dX9_copy_43 ?_
        refine r_if_eq (pc := 46) 52 dX9_copy_46 (by decide) h (fun c4 h => ?_) (fun c4 h => ?_)
        · refine r_aload (pc := 52) 1 dX9_copy_52 rfl ?_
          refine r_getI (pc := 54) (i := rfX 5 v1.toNatClampNeg) fdRX9_152 (elLX_16 nLX_5 kLX_5 (inb_lt b1)).1 (elLX_16 nLX_5 kLX_5 (inb_lt b1)).2 (by decide) dX9_copy_54 ?_
          refine r_aload (pc := 57) 0 dX9_copy_57 rfl ?_
          refine r_getI (pc := 59) (i := rfX 5 v3.toNatClampNeg) fdRX9_152 (elLX_16 nLX_5 kLX_5 (inb_lt b2)).1 (elLX_16 nLX_5 kLX_5 (inb_lt b2)).2 (by decide) dX9_copy_59 ?_
          refine r_icmp_eq (pc := 62) 68 dX9_copy_62 (by decide) h (fun c5 h => ?_) (fun c5 h => ?_)
          · refine r_aload (pc := 68) 1 dX9_copy_68 rfl ?_
            refine r_iload_n (pc := 70) 4 dX9_copy_70 rfl rfl ?_
            refine r_iload (pc := 71) 7 dX9_copy_71 rfl ?_
            refine r_callV (pc := 73) (i := rfX 5 v1.toNatClampNeg) (As := [.int v2, .int v5]) (rest := []) lkRX9_155 (ceX7_hasPlaces _ _ σ (rfX 5 v1.toNatClampNeg) v2 v5 (elLX_16 nLX_5 kLX_5 (inb_lt b1)).1 (elLX_16 nLX_5 kLX_5 (inb_lt b1)).2 rfl) (elLX_16 nLX_5 kLX_5 (inb_lt b1)).1 (elLX_16 nLX_5 kLX_5 (inb_lt b1)).2 (by decide) rfl ⟨Nat.le_of_ble_eq_true rfl, Nat.le_of_ble_eq_true rfl⟩ rfl rfl (Nat.le_of_ble_eq_true rfl) dX9_copy_73 rfl ?_
            refine r_if_eq (pc := 76) 91 dX9_copy_76 (by decide) h (fun c6 h => ?_) (fun c6 h => ?_)
            · refine r_ldc (pc := 91) w_441 dX9_copy_91 ?_
              exact r_iretW (pc := 93) rfl dX9_copy_93 h
            · refine r_aload (pc := 79) 0 dX9_copy_79 rfl ?_
              refine r_iload (pc := 81) 6 dX9_copy_81 rfl ?_
              refine r_iload (pc := 83) 7 dX9_copy_83 rfl ?_
              refine r_callV (pc := 85) (i := rfX 5 v3.toNatClampNeg) (As := [.int v4, .int v5]) (rest := []) lkRX9_155 (ceX7_hasPlaces _ _ σ (rfX 5 v3.toNatClampNeg) v4 v5 (elLX_16 nLX_5 kLX_5 (inb_lt b2)).1 (elLX_16 nLX_5 kLX_5 (inb_lt b2)).2 rfl) (elLX_16 nLX_5 kLX_5 (inb_lt b2)).1 (elLX_16 nLX_5 kLX_5 (inb_lt b2)).2 (by decide) rfl ⟨Nat.le_of_ble_eq_true rfl, Nat.le_of_ble_eq_true rfl⟩ rfl rfl (Nat.le_of_ble_eq_true rfl) dX9_copy_85 rfl ?_
              refine r_if_ne (pc := 88) 94 dX9_copy_88 (by decide) h (fun c7 h => ?_) (fun c7 h => ?_)
              · refine r_ldc (pc := 91) w_441 dX9_copy_91 ?_
                exact r_iretW (pc := 93) rfl dX9_copy_93 h
              · refine r_aload (pc := 94) 1 dX9_copy_94 rfl ?_
                refine r_getR (pc := 96) (i := rfX 5 v1.toNatClampNeg) (j := rfX (rfX 5 v1.toNatClampNeg) 0) fdRX9_159 (elLX_16 nLX_5 kLX_5 (inb_lt b1)).1 (elLX_16 nLX_5 kLX_5 (inb_lt b1)).2 (by decide) rfl dX9_copy_96 ?_
                refine r_iload_n (pc := 99) 4 dX9_copy_99 rfl rfl ?_
                refine r_aload (pc := 100) 0 dX9_copy_100 rfl ?_
                refine r_getR (pc := 102) (i := rfX 5 v3.toNatClampNeg) (j := rfX (rfX 5 v3.toNatClampNeg) 0) fdRX9_159 (elLX_16 nLX_5 kLX_5 (inb_lt b2)).1 (elLX_16 nLX_5 kLX_5 (inb_lt b2)).2 (by decide) rfl dX9_copy_102 ?_
                refine r_iload (pc := 105) 6 dX9_copy_105 rfl ?_
                refine r_iload (pc := 107) 7 dX9_copy_107 rfl ?_
                refine cpy_k h (fun b3 h => ?_)
                refine r_acopy (pc := 109) w_458 w_460 w_459 w_63 (rlLX_7_0 (elLX_16 nLX_5 kLX_5 (inb_lt b1)).1 (elLX_16 nLX_5 kLX_5 (inb_lt b1)).2).1 (rlLX_7_0 (elLX_16 nLX_5 kLX_5 (inb_lt b1)).1 (elLX_16 nLX_5 kLX_5 (inb_lt b1)).2).2.1 (rlLX_7_0 (elLX_16 nLX_5 kLX_5 (inb_lt b2)).1 (elLX_16 nLX_5 kLX_5 (inb_lt b2)).2).1 (rlLX_7_0 (elLX_16 nLX_5 kLX_5 (inb_lt b2)).1 (elLX_16 nLX_5 kLX_5 (inb_lt b2)).2).2.1 (rlLX_7_0 (elLX_16 nLX_5 kLX_5 (inb_lt b1)).1 (elLX_16 nLX_5 kLX_5 (inb_lt b1)).2).2.2 (rlLX_7_0 (elLX_16 nLX_5 kLX_5 (inb_lt b2)).1 (elLX_16 nLX_5 kLX_5 (inb_lt b2)).2).2.2 b3 ⟨Nat.le_of_ble_eq_true rfl, Nat.le_of_ble_eq_true rfl⟩ dX9_copy_109 ?_
                refine g_bm h (fun m1 em1 h => ?_)
                refine r_iload (pc := 112) 7 dX9_copy_112 rfl ?_
                exact r_iretW (pc := 114) rfl dX9_copy_114 h
          · refine r_ldc (pc := 65) w_355 dX9_copy_65 ?_
            exact r_iretW (pc := 67) rfl dX9_copy_67 h
        · refine r_ldc (pc := 49) w_440 dX9_copy_49 ?_
          exact r_iretW (pc := 51) rfl dX9_copy_51 h
      · refine r_ldc (pc := 49) w_440 dX9_copy_49 ?_
        exact r_iretW (pc := 51) rfl dX9_copy_51 h
theorem ceX9_copy (l : Launch) (d : SD) (σ : Mem) (v1 : Int32) (v2 : Int32) (v3 : Int32) (v4 : Int32) (v5 : Int32)  {r : Int32 × Mem} (h : fX9_copy σ v1 v2 v3 v4 v5 = some r) : Me l d LX yX9_copy qX9_copy σ [.ref (d.2.2.1 0), .int v1, .int v2, .int v3, .int v4, .int v5] (some r.1, r.2) := me_of (avs := fun d => [.ref (d.2.2.1 0), .int v1, .int v2, .int v3, .int v4, .int v5]) (by decide) rfl (Nat.le_of_ble_eq_true rfl) (fun E => gX9_copy E σ v1 v2 v3 v4 v5  h)
def fX9_lose (σ : Mem) (v1 : Int32) : Option (Int32 × Mem) :=
  if fX9_isSheet σ v1 = 0 then
    (some ((-1000000001), σ))
  else
    (if inb v1 4 = true then
    (if σ (rfX 5 v1.toNatClampNeg) 1 = 0 then
      (if inb v1 4 = true then
      (bm (mset σ (rfX 5 v1.toNatClampNeg) 1 1) (fun m1 =>
      if inb v1 4 = true then
      (some (m1 (rfX 5 v1.toNatClampNeg) 3, m1))
      else none))
      else none)
    else
      (some ((-1000000011), σ)))
    else none)
set_option maxHeartbeats 4000000 in
set_option maxRecDepth 20000 in
theorem gX9_lose (E : XE) {r : Int32 × Mem} (σ : Mem) (v1 : Int32)  (h : fX9_lose σ v1 = some r) : G E LX qX9_lose σ 0 [(0, .ref (xa E 0)), (1, .int v1)] [] (some r.1, r.2) := by
  unfold fX9_lose at h
  refine r_iload_n (pc := 0) 1 dX9_lose_0 rfl rfl ?_
  refine r_callS (pc := 1) (As := [.int v1]) (rest := []) lkRX9_131 (ceX9_isSheet _ _ σ v1 rfl) ⟨Nat.le_of_ble_eq_true rfl, Nat.le_of_ble_eq_true rfl⟩ rfl rfl (Nat.le_of_ble_eq_true rfl) dX9_lose_1 rfl ?_
  refine r_if_ne (pc := 4) 10 dX9_lose_4 (by decide) h (fun c1 h => ?_) (fun c1 h => ?_)
  · refine r_ldc (pc := 7) w_336 dX9_lose_7 ?_
    exact r_iretW (pc := 9) rfl dX9_lose_9 h
  · refine r_aload_n (pc := 10) 0 dX9_lose_10 rfl rfl ?_
    refine r_getR (pc := 11) (i := 0) (j := 5) fdRX9_21 nLX_0 kLX_0 (by decide) rfl dX9_lose_11 ?_
    refine r_iload_n (pc := 14) 1 dX9_lose_14 rfl rfl ?_
    refine inb_k h (fun b1 h => ?_)
    refine r_aald16 (pc := 15) (i := 5) (v1.toNatClampNeg) (rfX 5 v1.toNatClampNeg) rfl nLX_5 kLX_5 lLX_5 rfl b1 dX9_lose_15 ?_
    refine r_getI (pc := 16) (i := rfX 5 v1.toNatClampNeg) fdRX9_139 (elLX_16 nLX_5 kLX_5 (inb_lt b1)).1 (elLX_16 nLX_5 kLX_5 (inb_lt b1)).2 (by decide) dX9_lose_16 ?_
    refine r_if_eq (pc := 19) 25 dX9_lose_19 (by decide) h (fun c2 h => ?_) (fun c2 h => ?_)
    · refine r_aload_n (pc := 25) 0 dX9_lose_25 rfl rfl ?_
      refine r_getR (pc := 26) (i := 0) (j := 5) fdRX9_21 nLX_0 kLX_0 (by decide) rfl dX9_lose_26 ?_
      refine r_iload_n (pc := 29) 1 dX9_lose_29 rfl rfl ?_
      refine inb_k h (fun b2 h => ?_)
      refine r_aald16 (pc := 30) (i := 5) (v1.toNatClampNeg) (rfX 5 v1.toNatClampNeg) rfl nLX_5 kLX_5 lLX_5 rfl b2 dX9_lose_30 ?_
      refine r_iconst (pc := 31) dX9_lose_31 ci_1 ?_
      refine r_putI (pc := 32) (i := rfX 5 v1.toNatClampNeg) fpRX9_139 (elLX_16 nLX_5 kLX_5 (inb_lt b2)).1 (elLX_16 nLX_5 kLX_5 (inb_lt b2)).2 (by decide) rfl rfl dX9_lose_32 ?_
      refine g_bm h (fun m1 em1 h => ?_)
      refine r_aload_n (pc := 35) 0 dX9_lose_35 rfl rfl ?_
      refine r_getR (pc := 36) (i := 0) (j := 5) fdRX9_21 nLX_0 kLX_0 (by decide) rfl dX9_lose_36 ?_
      refine r_iload_n (pc := 39) 1 dX9_lose_39 rfl rfl ?_
      refine inb_k h (fun b3 h => ?_)
      refine r_aald16 (pc := 40) (i := 5) (v1.toNatClampNeg) (rfX 5 v1.toNatClampNeg) rfl nLX_5 kLX_5 lLX_5 rfl b3 dX9_lose_40 ?_
      refine r_getI (pc := 41) (i := rfX 5 v1.toNatClampNeg) fdRX9_144 (elLX_16 nLX_5 kLX_5 (inb_lt b3)).1 (elLX_16 nLX_5 kLX_5 (inb_lt b3)).2 (by decide) dX9_lose_41 ?_
      exact r_iretW (pc := 44) rfl dX9_lose_44 h
    · refine r_ldc (pc := 22) w_440 dX9_lose_22 ?_
      exact r_iretW (pc := 24) rfl dX9_lose_24 h
theorem ceX9_lose (l : Launch) (d : SD) (σ : Mem) (v1 : Int32)  {r : Int32 × Mem} (h : fX9_lose σ v1 = some r) : Me l d LX yX9_lose qX9_lose σ [.ref (d.2.2.1 0), .int v1] (some r.1, r.2) := me_of (avs := fun d => [.ref (d.2.2.1 0), .int v1]) (by decide) rfl (Nat.le_of_ble_eq_true rfl) (fun E => gX9_lose E σ v1  h)
def fX9_feed (σ : Mem) (v1 : Int32) (v2 : Int32) (v3 : Int32) : Option (Int32 × Mem) :=
  if σ 6 1 ≤ 36 then
    (bo (fX8_addNumber σ v1) (fun z1 =>
    bo (fX8_addNumber z1 v2) (fun z2 =>
    bo (fX8_addNumber z2 v3) (fun z3 =>
    some (z3 6 1, z3)))))
  else
    (some ((-1000000003), σ))
set_option maxHeartbeats 4000000 in
set_option maxRecDepth 20000 in
theorem gX9_feed (E : XE) {r : Int32 × Mem} (σ : Mem) (v1 : Int32) (v2 : Int32) (v3 : Int32)  (h : fX9_feed σ v1 v2 v3 = some r) : G E LX qX9_feed σ 0 [(0, .ref (xa E 0)), (1, .int v1), (2, .int v2), (3, .int v3)] [] (some r.1, r.2) := by
  unfold fX9_feed at h
  refine r_aload_n (pc := 0) 0 dX9_feed_0 rfl rfl ?_
  refine r_getR (pc := 1) (i := 0) (j := 6) fdRX9_28 nLX_0 kLX_0 (by decide) rfl dX9_feed_1 ?_
  refine r_getI (pc := 4) (i := 6) fdRX9_168 nLX_6 kLX_6 (by decide) dX9_feed_4 ?_
  refine r_bipush (pc := 7) dX9_feed_7 cb_36 ?_
  refine r_icmp_le (pc := 9) 15 dX9_feed_9 (by decide) h (fun c1 h => ?_) (fun c1 h => ?_)
  · refine r_aload_n (pc := 15) 0 dX9_feed_15 rfl rfl ?_
    refine r_getR (pc := 16) (i := 0) (j := 6) fdRX9_28 nLX_0 kLX_0 (by decide) rfl dX9_feed_16 ?_
    refine r_iload_n (pc := 19) 1 dX9_feed_19 rfl rfl ?_
    refine bo_k h (fun z1 hz1 h => ?_)
    refine r_callV (pc := 20) (i := 6) (As := [.int v1]) (rest := []) lkRX9_169 (ceX8_addNumber _ _ σ v1 hz1) nLX_6 kLX_6 (by decide) rfl ⟨Nat.le_of_ble_eq_true rfl, Nat.le_of_ble_eq_true rfl⟩ rfl rfl (Nat.le_of_ble_eq_true rfl) dX9_feed_20 rfl ?_
    refine r_aload_n (pc := 23) 0 dX9_feed_23 rfl rfl ?_
    refine r_getR (pc := 24) (i := 0) (j := 6) fdRX9_28 nLX_0 kLX_0 (by decide) rfl dX9_feed_24 ?_
    refine r_iload_n (pc := 27) 2 dX9_feed_27 rfl rfl ?_
    refine bo_k h (fun z2 hz2 h => ?_)
    refine r_callV (pc := 28) (i := 6) (As := [.int v2]) (rest := []) lkRX9_169 (ceX8_addNumber _ _ z1 v2 hz2) nLX_6 kLX_6 (by decide) rfl ⟨Nat.le_of_ble_eq_true rfl, Nat.le_of_ble_eq_true rfl⟩ rfl rfl (Nat.le_of_ble_eq_true rfl) dX9_feed_28 rfl ?_
    refine r_aload_n (pc := 31) 0 dX9_feed_31 rfl rfl ?_
    refine r_getR (pc := 32) (i := 0) (j := 6) fdRX9_28 nLX_0 kLX_0 (by decide) rfl dX9_feed_32 ?_
    refine r_iload_n (pc := 35) 3 dX9_feed_35 rfl rfl ?_
    refine bo_k h (fun z3 hz3 h => ?_)
    refine r_callV (pc := 36) (i := 6) (As := [.int v3]) (rest := []) lkRX9_169 (ceX8_addNumber _ _ z2 v3 hz3) nLX_6 kLX_6 (by decide) rfl ⟨Nat.le_of_ble_eq_true rfl, Nat.le_of_ble_eq_true rfl⟩ rfl rfl (Nat.le_of_ble_eq_true rfl) dX9_feed_36 rfl ?_
    refine r_aload_n (pc := 39) 0 dX9_feed_39 rfl rfl ?_
    refine r_getR (pc := 40) (i := 0) (j := 6) fdRX9_28 nLX_0 kLX_0 (by decide) rfl dX9_feed_40 ?_
    refine r_getI (pc := 43) (i := 6) fdRX9_168 nLX_6 kLX_6 (by decide) dX9_feed_43 ?_
    exact r_iretW (pc := 46) rfl dX9_feed_46 h
  · refine r_ldc (pc := 12) w_337 dX9_feed_12 ?_
    exact r_iretW (pc := 14) rfl dX9_feed_14 h
theorem ceX9_feed (l : Launch) (d : SD) (σ : Mem) (v1 : Int32) (v2 : Int32) (v3 : Int32)  {r : Int32 × Mem} (h : fX9_feed σ v1 v2 v3 = some r) : Me l d LX yX9_feed qX9_feed σ [.ref (d.2.2.1 0), .int v1, .int v2, .int v3] (some r.1, r.2) := me_of (avs := fun d => [.ref (d.2.2.1 0), .int v1, .int v2, .int v3]) (by decide) rfl (Nat.le_of_ble_eq_true rfl) (fun E => gX9_feed E σ v1 v2 v3  h)
def fX9_trim (σ : Mem) (v1 : Int32) : Option (Int32 × Mem) :=
  if fX9_isWithin σ v1 0 (σ 6 1) = 0 then
    (some ((-1000000001), σ))
  else
    (bm (mset σ 6 1 v1) (fun m1 =>
    some (v1, m1)))
set_option maxHeartbeats 4000000 in
set_option maxRecDepth 20000 in
theorem gX9_trim (E : XE) {r : Int32 × Mem} (σ : Mem) (v1 : Int32)  (h : fX9_trim σ v1 = some r) : G E LX qX9_trim σ 0 [(0, .ref (xa E 0)), (1, .int v1)] [] (some r.1, r.2) := by
  unfold fX9_trim at h
  refine r_iload_n (pc := 0) 1 dX9_trim_0 rfl rfl ?_
  refine r_iconst (pc := 1) dX9_trim_1 ci_0 ?_
  refine r_aload_n (pc := 2) 0 dX9_trim_2 rfl rfl ?_
  refine r_getR (pc := 3) (i := 0) (j := 6) fdRX9_28 nLX_0 kLX_0 (by decide) rfl dX9_trim_3 ?_
  refine r_getI (pc := 6) (i := 6) fdRX9_168 nLX_6 kLX_6 (by decide) dX9_trim_6 ?_
  refine r_callS (pc := 9) (As := [.int v1, .int 0, .int (σ 6 1)]) (rest := []) lkRX9_67 (ceX9_isWithin _ _ σ v1 0 (σ 6 1) rfl) ⟨Nat.le_of_ble_eq_true rfl, Nat.le_of_ble_eq_true rfl⟩ rfl rfl (Nat.le_of_ble_eq_true rfl) dX9_trim_9 rfl ?_
  refine r_if_ne (pc := 12) 18 dX9_trim_12 (by decide) h (fun c1 h => ?_) (fun c1 h => ?_)
  · refine r_ldc (pc := 15) w_336 dX9_trim_15 ?_
    exact r_iretW (pc := 17) rfl dX9_trim_17 h
  · refine r_aload_n (pc := 18) 0 dX9_trim_18 rfl rfl ?_
    refine r_getR (pc := 19) (i := 0) (j := 6) fdRX9_28 nLX_0 kLX_0 (by decide) rfl dX9_trim_19 ?_
    refine r_iload_n (pc := 22) 1 dX9_trim_22 rfl rfl ?_
    refine r_putI (pc := 23) (i := 6) fpRX9_168 nLX_6 kLX_6 (by decide) rfl rfl dX9_trim_23 ?_
    refine g_bm h (fun m1 em1 h => ?_)
    refine r_iload_n (pc := 26) 1 dX9_trim_26 rfl rfl ?_
    exact r_iretW (pc := 27) rfl dX9_trim_27 h
theorem ceX9_trim (l : Launch) (d : SD) (σ : Mem) (v1 : Int32)  {r : Int32 × Mem} (h : fX9_trim σ v1 = some r) : Me l d LX yX9_trim qX9_trim σ [.ref (d.2.2.1 0), .int v1] (some r.1, r.2) := me_of (avs := fun d => [.ref (d.2.2.1 0), .int v1]) (by decide) rfl (Nat.le_of_ble_eq_true rfl) (fun E => gX9_trim E σ v1  h)
def fX9_bringGift (σ : Mem) (v1 : Nat) : Option Mem :=
  bo (fX5_receive σ v1 (σ v1 4)) (fun z1 =>
  bo (fX6_add z1 (z1 0 9) 0 (z1 v1 4)) (fun z2 =>
  some z2))
set_option maxHeartbeats 4000000 in
set_option maxRecDepth 20000 in
theorem gX9_bringGift (E : XE) {r : Mem} (σ : Mem) (v1 : Nat) (n_v1 : v1 < LX.1) (k_v1 : LX.2.1 v1 = 5) (h : fX9_bringGift σ v1 = some r) : G E LX qX9_bringGift σ 0 [(0, .ref (xa E 0)), (1, .ref (xa E v1))] [] (none, r) := by
  unfold fX9_bringGift at h
  refine r_aload_n (pc := 0) 1 dX9_bringGift_0 rfl rfl ?_
  refine r_aload_n (pc := 1) 1 dX9_bringGift_1 rfl rfl ?_
  refine r_getI (pc := 2) (i := v1) fdRX9_285 n_v1 k_v1 (by decide) dX9_bringGift_2 ?_
  refine bo_k h (fun z1 hz1 h => ?_)
  refine r_callV (pc := 5) (i := v1) (As := [.int (σ v1 4)]) (rest := []) lkRX9_288 (ceX5_receive _ _ σ v1 (σ v1 4) n_v1 k_v1 hz1) n_v1 k_v1 (by decide) rfl ⟨Nat.le_of_ble_eq_true rfl, Nat.le_of_ble_eq_true rfl⟩ rfl rfl (Nat.le_of_ble_eq_true rfl) dX9_bringGift_5 rfl ?_
  refine r_aload_n (pc := 8) 0 dX9_bringGift_8 rfl rfl ?_
  refine r_getR (pc := 9) (i := 0) (j := 13) fdRX9_58 nLX_0 kLX_0 (by decide) rfl dX9_bringGift_9 ?_
  refine r_aload_n (pc := 12) 0 dX9_bringGift_12 rfl rfl ?_
  refine r_getI (pc := 13) (i := 0) fdRX9_108 nLX_0 kLX_0 (by decide) dX9_bringGift_13 ?_
  refine r_iconst (pc := 16) dX9_bringGift_16 ci_0 ?_
  refine r_aload_n (pc := 17) 1 dX9_bringGift_17 rfl rfl ?_
  refine r_getI (pc := 18) (i := v1) fdRX9_285 n_v1 k_v1 (by decide) dX9_bringGift_18 ?_
  refine bo_k h (fun z2 hz2 h => ?_)
  refine r_callV (pc := 21) (i := 13) (As := [.int (z1 0 9), .int 0, .int (z1 v1 4)]) (rest := []) lkRX9_291 (ceX6_add _ _ z1 (z1 0 9) 0 (z1 v1 4) hz2) nLX_13 kLX_13 (by decide) rfl ⟨Nat.le_of_ble_eq_true rfl, Nat.le_of_ble_eq_true rfl⟩ rfl rfl (Nat.le_of_ble_eq_true rfl) dX9_bringGift_21 rfl ?_
  exact r_vret (pc := 24) rfl dX9_bringGift_24 (Option.some.inj h)
theorem ceX9_bringGift (l : Launch) (d : SD) (σ : Mem) (v1 : Nat) (n_v1 : v1 < LX.1) (k_v1 : LX.2.1 v1 = 5) {r : Mem} (h : fX9_bringGift σ v1 = some r) : Me l d LX yX9_bringGift qX9_bringGift σ [.ref (d.2.2.1 0), .ref (d.2.2.1 v1)] (none, r) := me_of (avs := fun d => [.ref (d.2.2.1 0), .ref (d.2.2.1 v1)]) (by decide) rfl (Nat.le_of_ble_eq_true rfl) (fun E => gX9_bringGift E σ v1 n_v1 k_v1 h)
def fX9_gift (σ : Mem)  : Option (Int32 × Mem) :=
  bo (fX4_isGift σ (σ 1 1) (σ 0 9)) (fun z1 =>
  bm (mset z1.2 6 1 0) (fun m1 =>
  if z1.1 = 0 then
    (some ((-100) - (m1 8 1), m1))
  else
    (if m1 9 1 < 20 then
      (bo (fX3_make m1) (fun z2 =>
      if z2.2 0 9 < z2.2 8 5 then
        (some (z2.1, z2.2))
      else
        (if inb z2.1 20 = true then
        (bo (fX9_bringGift z2.2 (rfX 10 z2.1.toNatClampNeg)) (fun z3 =>
        some (z2.1, z3)))
        else none)))
    else
      (some ((-1000000003), m1)))))
set_option maxHeartbeats 4000000 in
set_option maxRecDepth 20000 in
theorem gX9_gift (E : XE) {r : Int32 × Mem} (σ : Mem)   (h : fX9_gift σ  = some r) : G E LX qX9_gift σ 0 [(0, .ref (xa E 0))] [] (some r.1, r.2) := by
  unfold fX9_gift at h
  refine r_aload_n (pc := 0) 0 dX9_gift_0 rfl rfl ?_
  refine r_getR (pc := 1) (i := 0) (j := 8) fdRX9_37 nLX_0 kLX_0 (by decide) rfl dX9_gift_1 ?_
  refine r_aload_n (pc := 4) 0 dX9_gift_4 rfl rfl ?_
  refine r_getR (pc := 5) (i := 0) (j := 1) fdRX9_12 nLX_0 kLX_0 (by decide) rfl dX9_gift_5 ?_
  refine r_getI (pc := 8) (i := 1) fdRX9_72 nLX_1 kLX_1 (by decide) dX9_gift_8 ?_
  refine r_aload_n (pc := 11) 0 dX9_gift_11 rfl rfl ?_
  refine r_getI (pc := 12) (i := 0) fdRX9_108 nLX_0 kLX_0 (by decide) dX9_gift_12 ?_
  refine bo_k h (fun z1 hz1 h => ?_)
  refine r_callV (pc := 15) (i := 8) (As := [.int (σ 1 1), .int (σ 0 9)]) (rest := []) lkRX9_173 (ceX4_isGift _ _ σ (σ 1 1) (σ 0 9) hz1) nLX_8 kLX_8 (by decide) rfl ⟨Nat.le_of_ble_eq_true rfl, Nat.le_of_ble_eq_true rfl⟩ rfl rfl (Nat.le_of_ble_eq_true rfl) dX9_gift_15 rfl ?_
  refine r_istore_n (pc := 18) (lv' := [(1, .int z1.1), (0, .ref (xa E 0))]) dX9_gift_18 rfl (Nat.le_of_ble_eq_true rfl) rfl ?_
  refine r_aload_n (pc := 19) 1 dX9_gift_19 rfl rfl ?_
  refine r_getR (pc := 20) (i := 0) (j := 6) fdRX9_28 nLX_0 kLX_0 (by decide) rfl dX9_gift_20 ?_
  refine r_iconst (pc := 23) dX9_gift_23 ci_0 ?_
  refine r_putI (pc := 24) (i := 6) fpRX9_168 nLX_6 kLX_6 (by decide) rfl rfl dX9_gift_24 ?_
  refine g_bm h (fun m1 em1 h => ?_)
  refine r_iload_n (pc := 27) 0 dX9_gift_27 rfl rfl ?_
  refine r_if_ne (pc := 28) 42 dX9_gift_28 (by decide) h (fun c1 h => ?_) (fun c1 h => ?_)
  · refine r_bipush (pc := 31) dX9_gift_31 cb_m100 ?_
    refine r_aload_n (pc := 33) 1 dX9_gift_33 rfl rfl ?_
    refine r_getR (pc := 34) (i := 0) (j := 8) fdRX9_37 nLX_0 kLX_0 (by decide) rfl dX9_gift_34 ?_
    refine r_getI (pc := 37) (i := 8) fdRX9_176 nLX_8 kLX_8 (by decide) dX9_gift_37 ?_
    refine r_isub (pc := 40) dX9_gift_40 ?_
    exact r_iretW (pc := 41) rfl dX9_gift_41 h
  · refine r_aload_n (pc := 42) 1 dX9_gift_42 rfl rfl ?_
    refine r_getR (pc := 43) (i := 0) (j := 9) fdRX9_44 nLX_0 kLX_0 (by decide) rfl dX9_gift_43 ?_
    refine r_getI (pc := 46) (i := 9) fdRX9_179 nLX_9 kLX_9 (by decide) dX9_gift_46 ?_
    refine r_bipush (pc := 49) dX9_gift_49 cb_20 ?_
    refine r_icmp_lt (pc := 51) 57 dX9_gift_51 (by decide) h (fun c2 h => ?_) (fun c2 h => ?_)
    · refine r_aload_n (pc := 57) 1 dX9_gift_57 rfl rfl ?_
      refine r_getR (pc := 58) (i := 0) (j := 9) fdRX9_44 nLX_0 kLX_0 (by decide) rfl dX9_gift_58 ?_
      refine r_aload_n (pc := 61) 1 dX9_gift_61 rfl rfl ?_
      refine r_getR (pc := 62) (i := 0) (j := 8) fdRX9_37 nLX_0 kLX_0 (by decide) rfl dX9_gift_62 ?_
      refine bo_k h (fun z2 hz2 h => ?_)
      refine r_callV (pc := 65) (i := 9) (As := [.ref (xa E 8)]) (rest := []) lkRX9_180 (ceX3_make _ _ m1 hz2) nLX_9 kLX_9 (by decide) rfl ⟨Nat.le_of_ble_eq_true rfl, Nat.le_of_ble_eq_true rfl⟩ rfl rfl (Nat.le_of_ble_eq_true rfl) dX9_gift_65 rfl ?_
      refine r_istore_n (pc := 68) (lv' := [(2, .int z2.1), (1, .int z1.1), (0, .ref (xa E 0))]) dX9_gift_68 rfl (Nat.le_of_ble_eq_true rfl) rfl ?_
      refine r_aload_n (pc := 69) 2 dX9_gift_69 rfl rfl ?_
      refine r_getR (pc := 70) (i := 0) (j := 8) fdRX9_37 nLX_0 kLX_0 (by decide) rfl dX9_gift_70 ?_
      refine r_getI (pc := 73) (i := 8) fdRX9_184 nLX_8 kLX_8 (by decide) dX9_gift_73 ?_
      refine r_aload_n (pc := 76) 2 dX9_gift_76 rfl rfl ?_
      refine r_getI (pc := 77) (i := 0) fdRX9_108 nLX_0 kLX_0 (by decide) dX9_gift_77 ?_
      refine r_icmp_gt (pc := 80) 96 dX9_gift_80 (by decide) h (fun c3 h => ?_) (fun c3 h => ?_)
      · refine r_iload_n (pc := 96) 0 dX9_gift_96 rfl rfl ?_
        exact r_iretW (pc := 97) rfl dX9_gift_97 h
      · refine r_aload_n (pc := 83) 2 dX9_gift_83 rfl rfl ?_
        refine r_aload_n (pc := 84) 2 dX9_gift_84 rfl rfl ?_
        refine r_getR (pc := 85) (i := 0) (j := 9) fdRX9_44 nLX_0 kLX_0 (by decide) rfl dX9_gift_85 ?_
        refine r_getR (pc := 88) (i := 9) (j := 10) fdRX9_187 nLX_9 kLX_9 (by decide) rfl dX9_gift_88 ?_
        refine r_iload_n (pc := 91) 0 dX9_gift_91 rfl rfl ?_
        refine inb_k h (fun b1 h => ?_)
        refine r_aald15 (pc := 92) (i := 10) (z2.1.toNatClampNeg) (rfX 10 z2.1.toNatClampNeg) rfl nLX_10 kLX_10 lLX_10 rfl b1 dX9_gift_92 ?_
        refine bo_k h (fun z3 hz3 h => ?_)
        refine r_callV (pc := 93) (i := 0) (As := [.ref (xa E (rfX 10 z2.1.toNatClampNeg))]) (rest := []) lkRX9_191 (ceX9_bringGift _ _ z2.2 (rfX 10 z2.1.toNatClampNeg) (elLX_15 nLX_10 kLX_10 (inb_lt b1)).1 (elLX_15 nLX_10 kLX_10 (inb_lt b1)).2 hz3) nLX_0 kLX_0 (by decide) rfl ⟨Nat.le_of_ble_eq_true rfl, Nat.le_of_ble_eq_true rfl⟩ rfl rfl (Nat.le_of_ble_eq_true rfl) dX9_gift_93 rfl ?_
        refine r_iload_n (pc := 96) 0 dX9_gift_96 rfl rfl ?_
        exact r_iretW (pc := 97) rfl dX9_gift_97 h
    · refine r_ldc (pc := 54) w_337 dX9_gift_54 ?_
      exact r_iretW (pc := 56) rfl dX9_gift_56 h
theorem ceX9_gift (l : Launch) (d : SD) (σ : Mem)   {r : Int32 × Mem} (h : fX9_gift σ  = some r) : Me l d LX yX9_gift qX9_gift σ [.ref (d.2.2.1 0)] (some r.1, r.2) := me_of (avs := fun d => [.ref (d.2.2.1 0)]) (by decide) rfl (Nat.le_of_ble_eq_true rfl) (fun E => gX9_gift E σ   h)
def fX9_purse (σ : Mem) (v1 : Int32) (v2 : Int32) : Option Int32 :=
  if fX3_has σ v1 = 0 then
    (some ((-1000000001)))
  else
    (if inb v1 20 = true then
    (if v2 = 0 then
      (some (σ (rfX 10 v1.toNatClampNeg) 1))
    else
      if v2 = 1 then
      (some (σ (rfX 10 v1.toNatClampNeg) 2))
    else
      if v2 = 2 then
      (some (σ (rfX 10 v1.toNatClampNeg) 3))
    else
      if v2 = 3 then
      (some (σ (rfX 10 v1.toNatClampNeg) 6))
    else
      if v2 = 4 then
      (some (σ (rfX 10 v1.toNatClampNeg) 5))
    else
      if v2 = 5 then
      (if fX5_isOpen σ (rfX 10 v1.toNatClampNeg) (σ 0 9) = 0 then
        (some (0))
      else
        (some (1)))
    else
      if v2 = 6 then
      (some (σ (rfX 10 v1.toNatClampNeg) 7))
    else
      if v2 = 7 then
      (some (σ (rfX 10 v1.toNatClampNeg) 8))
    else
      (some ((-1000000001))))
    else none)
set_option maxHeartbeats 4000000 in
set_option maxRecDepth 20000 in
theorem gX9_purse (E : XE) {r : Int32} (σ : Mem) (v1 : Int32) (v2 : Int32)  (h : fX9_purse σ v1 v2 = some r) : G E LX qX9_purse σ 0 [(0, .ref (xa E 0)), (1, .int v1), (2, .int v2)] [] (some r, σ) := by
  unfold fX9_purse at h
  refine r_aload_n (pc := 0) 0 dX9_purse_0 rfl rfl ?_
  refine r_getR (pc := 1) (i := 0) (j := 9) fdRX9_44 nLX_0 kLX_0 (by decide) rfl dX9_purse_1 ?_
  refine r_iload_n (pc := 4) 1 dX9_purse_4 rfl rfl ?_
  refine r_callV (pc := 5) (i := 9) (As := [.int v1]) (rest := []) lkRX9_195 (ceX3_has _ _ σ v1 rfl) nLX_9 kLX_9 (by decide) rfl ⟨Nat.le_of_ble_eq_true rfl, Nat.le_of_ble_eq_true rfl⟩ rfl rfl (Nat.le_of_ble_eq_true rfl) dX9_purse_5 rfl ?_
  refine r_if_ne (pc := 8) 14 dX9_purse_8 (by decide) h (fun c1 h => ?_) (fun c1 h => ?_)
  · refine r_ldc (pc := 11) w_336 dX9_purse_11 ?_
    exact r_iret (pc := 13) rfl dX9_purse_13 (Option.some.inj h) rfl
  · refine r_aload_n (pc := 14) 0 dX9_purse_14 rfl rfl ?_
    refine r_getR (pc := 15) (i := 0) (j := 9) fdRX9_44 nLX_0 kLX_0 (by decide) rfl dX9_purse_15 ?_
    refine r_getR (pc := 18) (i := 9) (j := 10) fdRX9_187 nLX_9 kLX_9 (by decide) rfl dX9_purse_18 ?_
    refine r_iload_n (pc := 21) 1 dX9_purse_21 rfl rfl ?_
    refine inb_k h (fun b1 h => ?_)
    refine r_aald15 (pc := 22) (i := 10) (v1.toNatClampNeg) (rfX 10 v1.toNatClampNeg) rfl nLX_10 kLX_10 lLX_10 rfl b1 dX9_purse_22 ?_
    refine r_astore_n (pc := 23) (lv' := [(3, .ref (xa E (rfX 10 v1.toNatClampNeg))), (0, .ref (xa E 0)), (1, .int v1), (2, .int v2)]) dX9_purse_23 rfl (Nat.le_of_ble_eq_true rfl) rfl ?_
    refine r_iload_n (pc := 24) 3 dX9_purse_24 rfl rfl ?_
    refine ite_k h (fun c2 h => ?_) (fun c2 h => ?_)
    · refine r_tabIn (pc := 25) (off := 47) 72 c2 dX9_purse_25 (by decide) (by decide) (by decide) (by decide) ?_
      refine r_aload_n (pc := 72) 0 dX9_purse_72 rfl rfl ?_
      refine r_getI (pc := 73) (i := rfX 10 v1.toNatClampNeg) fdRX9_196 (elLX_15 nLX_10 kLX_10 (inb_lt b1)).1 (elLX_15 nLX_10 kLX_10 (inb_lt b1)).2 (by decide) dX9_purse_73 ?_
      exact r_iret (pc := 76) rfl dX9_purse_76 (Option.some.inj h) rfl
    refine ite_k h (fun c3 h => ?_) (fun c3 h => ?_)
    · refine r_tabIn (pc := 25) (off := 52) 77 c3 dX9_purse_25 (by decide) (by decide) (by decide) (by decide) ?_
      refine r_aload_n (pc := 77) 0 dX9_purse_77 rfl rfl ?_
      refine r_getI (pc := 78) (i := rfX 10 v1.toNatClampNeg) fdRX9_201 (elLX_15 nLX_10 kLX_10 (inb_lt b1)).1 (elLX_15 nLX_10 kLX_10 (inb_lt b1)).2 (by decide) dX9_purse_78 ?_
      exact r_iret (pc := 81) rfl dX9_purse_81 (Option.some.inj h) rfl
    refine ite_k h (fun c4 h => ?_) (fun c4 h => ?_)
    · refine r_tabIn (pc := 25) (off := 57) 82 c4 dX9_purse_25 (by decide) (by decide) (by decide) (by decide) ?_
      refine r_aload_n (pc := 82) 0 dX9_purse_82 rfl rfl ?_
      refine r_getI (pc := 83) (i := rfX 10 v1.toNatClampNeg) fdRX9_202 (elLX_15 nLX_10 kLX_10 (inb_lt b1)).1 (elLX_15 nLX_10 kLX_10 (inb_lt b1)).2 (by decide) dX9_purse_83 ?_
      exact r_iret (pc := 86) rfl dX9_purse_86 (Option.some.inj h) rfl
    refine ite_k h (fun c5 h => ?_) (fun c5 h => ?_)
    · refine r_tabIn (pc := 25) (off := 62) 87 c5 dX9_purse_25 (by decide) (by decide) (by decide) (by decide) ?_
      refine r_aload_n (pc := 87) 0 dX9_purse_87 rfl rfl ?_
      refine r_getI (pc := 88) (i := rfX 10 v1.toNatClampNeg) fdRX9_205 (elLX_15 nLX_10 kLX_10 (inb_lt b1)).1 (elLX_15 nLX_10 kLX_10 (inb_lt b1)).2 (by decide) dX9_purse_88 ?_
      exact r_iret (pc := 91) rfl dX9_purse_91 (Option.some.inj h) rfl
    refine ite_k h (fun c6 h => ?_) (fun c6 h => ?_)
    · refine r_tabIn (pc := 25) (off := 67) 92 c6 dX9_purse_25 (by decide) (by decide) (by decide) (by decide) ?_
      refine r_aload_n (pc := 92) 0 dX9_purse_92 rfl rfl ?_
      refine r_getI (pc := 93) (i := rfX 10 v1.toNatClampNeg) fdRX9_208 (elLX_15 nLX_10 kLX_10 (inb_lt b1)).1 (elLX_15 nLX_10 kLX_10 (inb_lt b1)).2 (by decide) dX9_purse_93 ?_
      exact r_iret (pc := 96) rfl dX9_purse_96 (Option.some.inj h) rfl
    refine ite_k h (fun c7 h => ?_) (fun c7 h => ?_)
    · refine r_tabIn (pc := 25) (off := 72) 97 c7 dX9_purse_25 (by decide) (by decide) (by decide) (by decide) ?_
      refine r_aload_n (pc := 97) 0 dX9_purse_97 rfl rfl ?_
      refine r_aload_n (pc := 98) 1 dX9_purse_98 rfl rfl ?_
      refine r_getI (pc := 99) (i := 0) fdRX9_108 nLX_0 kLX_0 (by decide) dX9_purse_99 ?_
      refine r_callV (pc := 102) (i := rfX 10 v1.toNatClampNeg) (As := [.int (σ 0 9)]) (rest := []) lkRX9_211 (ceX5_isOpen _ _ σ (rfX 10 v1.toNatClampNeg) (σ 0 9) (elLX_15 nLX_10 kLX_10 (inb_lt b1)).1 (elLX_15 nLX_10 kLX_10 (inb_lt b1)).2 rfl) (elLX_15 nLX_10 kLX_10 (inb_lt b1)).1 (elLX_15 nLX_10 kLX_10 (inb_lt b1)).2 (by decide) rfl ⟨Nat.le_of_ble_eq_true rfl, Nat.le_of_ble_eq_true rfl⟩ rfl rfl (Nat.le_of_ble_eq_true rfl) dX9_purse_102 rfl ?_
      refine r_if_eq (pc := 105) 112 dX9_purse_105 (by decide) h (fun c8 h => ?_) (fun c8 h => ?_)
      · refine r_iconst (pc := 112) dX9_purse_112 ci_0 ?_
        exact r_iret (pc := 113) rfl dX9_purse_113 (Option.some.inj h) rfl
      · refine r_iconst (pc := 108) dX9_purse_108 ci_1 ?_
        refine r_goto (pc := 109) 113 dX9_purse_109 (by decide) ?_
        exact r_iret (pc := 113) rfl dX9_purse_113 (Option.some.inj h) rfl
    refine ite_k h (fun c9 h => ?_) (fun c9 h => ?_)
    · refine r_tabIn (pc := 25) (off := 89) 114 c9 dX9_purse_25 (by decide) (by decide) (by decide) (by decide) ?_
      refine r_aload_n (pc := 114) 0 dX9_purse_114 rfl rfl ?_
      refine r_getI (pc := 115) (i := rfX 10 v1.toNatClampNeg) fdRX9_214 (elLX_15 nLX_10 kLX_10 (inb_lt b1)).1 (elLX_15 nLX_10 kLX_10 (inb_lt b1)).2 (by decide) dX9_purse_115 ?_
      exact r_iret (pc := 118) rfl dX9_purse_118 (Option.some.inj h) rfl
    refine ite_k h (fun c10 h => ?_) (fun c10 h => ?_)
    · refine r_tabIn (pc := 25) (off := 94) 119 c10 dX9_purse_25 (by decide) (by decide) (by decide) (by decide) ?_
      refine r_aload_n (pc := 119) 0 dX9_purse_119 rfl rfl ?_
      refine r_getI (pc := 120) (i := rfX 10 v1.toNatClampNeg) fdRX9_217 (elLX_15 nLX_10 kLX_10 (inb_lt b1)).1 (elLX_15 nLX_10 kLX_10 (inb_lt b1)).2 (by decide) dX9_purse_120 ?_
      exact r_iret (pc := 123) rfl dX9_purse_123 (Option.some.inj h) rfl
    refine r_tabOut (pc := 25) 124 dX9_purse_25 (by have ec2 := ti_ne (z := 0) c2 (by decide); have ec3 := ti_ne (z := 1) c3 (by decide); have ec4 := ti_ne (z := 2) c4 (by decide); have ec5 := ti_ne (z := 3) c5 (by decide); have ec6 := ti_ne (z := 4) c6 (by decide); have ec7 := ti_ne (z := 5) c7 (by decide); have ec9 := ti_ne (z := 6) c9 (by decide); have ec10 := ti_ne (z := 7) c10 (by decide); omega) (by decide) ?_
    refine r_ldc (pc := 124) w_336 dX9_purse_124 ?_
    exact r_iret (pc := 126) rfl dX9_purse_126 (Option.some.inj h) rfl
theorem ceX9_purse (l : Launch) (d : SD) (σ : Mem) (v1 : Int32) (v2 : Int32)  {r : Int32} (h : fX9_purse σ v1 v2 = some r) : Me l d LX yX9_purse qX9_purse σ [.ref (d.2.2.1 0), .int v1, .int v2] (some r, σ) := me_of (avs := fun d => [.ref (d.2.2.1 0), .int v1, .int v2]) (by decide) rfl (Nat.le_of_ble_eq_true rfl) (fun E => gX9_purse E σ v1 v2  h)
def fX9_isEnd (σ : Mem) (v1 : Int32) : Int32 :=
  if fX9_isWithin σ v1 0 1 = 0 then
    (if v1 < 2 then
      (0)
    else
      (if fX2_has σ 1 (v1 - 2) = 0 then
        (0)
      else
        (1)))
  else
    (1)
set_option maxHeartbeats 4000000 in
set_option maxRecDepth 20000 in
theorem gX9_isEnd (E : XE) {r : Int32} (σ : Mem) (v1 : Int32)  (h : fX9_isEnd σ v1 = r) : G E LX qX9_isEnd σ 0 [(0, .ref (xa E 0)), (1, .int v1)] [] (some r, σ) := by
  unfold fX9_isEnd at h
  refine r_iload_n (pc := 0) 1 dX9_isEnd_0 rfl rfl ?_
  refine r_iconst (pc := 1) dX9_isEnd_1 ci_0 ?_
  refine r_iconst (pc := 2) dX9_isEnd_2 ci_1 ?_
  refine r_callS (pc := 3) (As := [.int v1, .int 0, .int 1]) (rest := []) lkRX9_67 (ceX9_isWithin _ _ σ v1 0 1 rfl) ⟨Nat.le_of_ble_eq_true rfl, Nat.le_of_ble_eq_true rfl⟩ rfl rfl (Nat.le_of_ble_eq_true rfl) dX9_isEnd_3 rfl ?_
  refine r_if_ne (pc := 6) 27 dX9_isEnd_6 (by decide) h (fun c1 h => ?_) (fun c1 h => ?_)
  · refine r_iload_n (pc := 9) 1 dX9_isEnd_9 rfl rfl ?_
    refine r_iconst (pc := 10) dX9_isEnd_10 ci_2 ?_
    refine r_icmp_lt (pc := 11) 31 dX9_isEnd_11 (by decide) h (fun c2 h => ?_) (fun c2 h => ?_)
    · refine r_iconst (pc := 31) dX9_isEnd_31 ci_0 ?_
      exact r_zret (pc := 32) rfl rfl dX9_isEnd_32 h rfl
    · refine r_aload_n (pc := 14) 0 dX9_isEnd_14 rfl rfl ?_
      refine r_getR (pc := 15) (i := 0) (j := 1) fdRX9_12 nLX_0 kLX_0 (by decide) rfl dX9_isEnd_15 ?_
      refine r_iload_n (pc := 18) 1 dX9_isEnd_18 rfl rfl ?_
      refine r_iconst (pc := 19) dX9_isEnd_19 ci_2 ?_
      refine r_isub (pc := 20) dX9_isEnd_20 ?_
      refine r_callV (pc := 21) (i := 1) (As := [.int (v1 - 2)]) (rest := []) lkRX9_81 (ceX2_has _ _ σ 1 (v1 - 2) nLX_1 kLX_1 rfl) nLX_1 kLX_1 (by decide) rfl ⟨Nat.le_of_ble_eq_true rfl, Nat.le_of_ble_eq_true rfl⟩ rfl rfl (Nat.le_of_ble_eq_true rfl) dX9_isEnd_21 rfl ?_
      refine r_if_eq (pc := 24) 31 dX9_isEnd_24 (by decide) h (fun c3 h => ?_) (fun c3 h => ?_)
      · refine r_iconst (pc := 31) dX9_isEnd_31 ci_0 ?_
        exact r_zret (pc := 32) rfl rfl dX9_isEnd_32 h rfl
      · refine r_iconst (pc := 27) dX9_isEnd_27 ci_1 ?_
        refine r_goto (pc := 28) 32 dX9_isEnd_28 (by decide) ?_
        exact r_zret (pc := 32) rfl rfl dX9_isEnd_32 h rfl
  · refine r_iconst (pc := 27) dX9_isEnd_27 ci_1 ?_
    refine r_goto (pc := 28) 32 dX9_isEnd_28 (by decide) ?_
    exact r_zret (pc := 32) rfl rfl dX9_isEnd_32 h rfl
theorem ceX9_isEnd (l : Launch) (d : SD) (σ : Mem) (v1 : Int32)  {r : Int32} (h : fX9_isEnd σ v1 = r) : Me l d LX yX9_isEnd qX9_isEnd σ [.ref (d.2.2.1 0), .int v1] (some r, σ) := me_of (avs := fun d => [.ref (d.2.2.1 0), .int v1]) (by decide) rfl (Nat.le_of_ble_eq_true rfl) (fun E => gX9_isEnd E σ v1  h)
theorem nbX9_isEnd {σ : Mem} {v1 : Int32} : narrow .boolean (.int (fX9_isEnd σ v1)) = .int (fX9_isEnd σ v1) := by
  unfold fX9_isEnd
  repeat' split
  all_goals rfl
def fX9_funds (σ : Mem) (v1 : Int32) : Option Int32 :=
  if fX9_isEnd σ v1 = 0 then
    (some ((-1000000001)))
  else
    (bo (fX3_coinsFor σ v1 (σ 0 9)) (fun z1 =>
    some (z1)))
set_option maxHeartbeats 4000000 in
set_option maxRecDepth 20000 in
theorem gX9_funds (E : XE) {r : Int32} (σ : Mem) (v1 : Int32)  (h : fX9_funds σ v1 = some r) : G E LX qX9_funds σ 0 [(0, .ref (xa E 0)), (1, .int v1)] [] (some r, σ) := by
  unfold fX9_funds at h
  refine r_aload_n (pc := 0) 0 dX9_funds_0 rfl rfl ?_
  refine r_iload_n (pc := 1) 1 dX9_funds_1 rfl rfl ?_
  refine r_callV (pc := 2) (i := 0) (As := [.int v1]) (rest := []) lkRX9_220 (ceX9_isEnd _ _ σ v1 rfl) nLX_0 kLX_0 (by decide) rfl ⟨Nat.le_of_ble_eq_true rfl, Nat.le_of_ble_eq_true rfl⟩ rfl rfl (Nat.le_of_ble_eq_true rfl) dX9_funds_2 rfl ?_
  refine r_if_eq (pc := 5) 23 dX9_funds_5 (by decide) h (fun c1 h => ?_) (fun c1 h => ?_)
  · refine r_ldc (pc := 23) w_336 dX9_funds_23 ?_
    exact r_iret (pc := 25) rfl dX9_funds_25 (Option.some.inj h) rfl
  · refine r_aload_n (pc := 8) 0 dX9_funds_8 rfl rfl ?_
    refine r_getR (pc := 9) (i := 0) (j := 9) fdRX9_44 nLX_0 kLX_0 (by decide) rfl dX9_funds_9 ?_
    refine r_iload_n (pc := 12) 1 dX9_funds_12 rfl rfl ?_
    refine r_aload_n (pc := 13) 0 dX9_funds_13 rfl rfl ?_
    refine r_getI (pc := 14) (i := 0) fdRX9_108 nLX_0 kLX_0 (by decide) dX9_funds_14 ?_
    refine bo_k h (fun z1 hz1 h => ?_)
    refine r_callV (pc := 17) (i := 9) (As := [.int v1, .int (σ 0 9)]) (rest := []) lkRX9_223 (ceX3_coinsFor _ _ σ v1 (σ 0 9) hz1) nLX_9 kLX_9 (by decide) rfl ⟨Nat.le_of_ble_eq_true rfl, Nat.le_of_ble_eq_true rfl⟩ rfl rfl (Nat.le_of_ble_eq_true rfl) dX9_funds_17 rfl ?_
    refine r_goto (pc := 20) 25 dX9_funds_20 (by decide) ?_
    exact r_iret (pc := 25) rfl dX9_funds_25 (Option.some.inj h) rfl
theorem ceX9_funds (l : Launch) (d : SD) (σ : Mem) (v1 : Int32)  {r : Int32} (h : fX9_funds σ v1 = some r) : Me l d LX yX9_funds qX9_funds σ [.ref (d.2.2.1 0), .int v1] (some r, σ) := me_of (avs := fun d => [.ref (d.2.2.1 0), .int v1]) (by decide) rfl (Nat.le_of_ble_eq_true rfl) (fun E => gX9_funds E σ v1  h)
def fX9_mostOfRule (σ : Mem) (v0 : Int32) : Int32 :=
  if v0 = 4 then
    (10)
  else
    if v0 = 5 then
    (1000)
  else
    (100)
set_option maxHeartbeats 4000000 in
set_option maxRecDepth 20000 in
theorem gX9_mostOfRule (E : XE) {r : Int32} (σ : Mem) (v0 : Int32)  (h : fX9_mostOfRule σ v0 = r) : G E LX qX9_mostOfRule σ 0 [(0, .int v0)] [] (some r, σ) := by
  unfold fX9_mostOfRule at h
  refine r_iload_n (pc := 0) 0 dX9_mostOfRule_0 rfl rfl ?_
  refine ite_k h (fun c1 h => ?_) (fun c1 h => ?_)
  · refine r_lookup (pc := 1) (off := 27) 28 dX9_mostOfRule_1 (by decide) (by rw [c1]; decide) (by decide) ?_
    refine r_bipush (pc := 28) dX9_mostOfRule_28 cb_10 ?_
    exact r_iret (pc := 30) rfl dX9_mostOfRule_30 h rfl
  refine ite_k h (fun c2 h => ?_) (fun c2 h => ?_)
  · refine r_lookup (pc := 1) (off := 30) 31 dX9_mostOfRule_1 (by decide) (by rw [c2]; decide) (by decide) ?_
    refine r_sipush (pc := 31) dX9_mostOfRule_31 cs_1000 ?_
    exact r_iret (pc := 34) rfl dX9_mostOfRule_34 h rfl
  refine r_lookup (pc := 1) (off := 34) 35 dX9_mostOfRule_1 (by decide) (by have ec1 := ti_ne (z := 4) c1 (by decide); have ec2 := ti_ne (z := 5) c2 (by decide); simp [Op.lookupswitch.offset, ec1, ec2, Ne.symm ec1, Ne.symm ec2]) (by decide) ?_
  refine r_bipush (pc := 35) dX9_mostOfRule_35 cb_100 ?_
  exact r_iret (pc := 37) rfl dX9_mostOfRule_37 h rfl
theorem ceX9_mostOfRule (l : Launch) (d : SD) (σ : Mem) (v0 : Int32)  {r : Int32} (h : fX9_mostOfRule σ v0 = r) : Me l d LX yX9_mostOfRule qX9_mostOfRule σ [.int v0] (some r, σ) := me_of (avs := fun d => [.int v0]) (by decide) rfl (Nat.le_of_ble_eq_true rfl) (fun E => gX9_mostOfRule E σ v0  h)
def fX9_rule (σ : Mem) (v1 : Int32) (v2 : Int32) : Option (Int32 × Mem) :=
  if fX9_isWithin σ v1 0 5 = 0 then
    (some ((-1000000001), σ))
  else
    (if fX9_isWithin σ v2 0 (fX9_mostOfRule σ v1) = 0 then
      (some ((-1000000001), σ))
    else
      (if inb v1 6 = true then
      (bi (σ 15 v1.toNatClampNeg) (fun x1 =>
      if inb v1 6 = true then
      (bm (mset σ 15 v1.toNatClampNeg v2) (fun m1 =>
      some (x1, m1)))
      else none))
      else none))
set_option maxHeartbeats 4000000 in
set_option maxRecDepth 20000 in
theorem gX9_rule (E : XE) {r : Int32 × Mem} (σ : Mem) (v1 : Int32) (v2 : Int32)  (h : fX9_rule σ v1 v2 = some r) : G E LX qX9_rule σ 0 [(0, .ref (xa E 0)), (1, .int v1), (2, .int v2)] [] (some r.1, r.2) := by
  unfold fX9_rule at h
  refine r_iload_n (pc := 0) 1 dX9_rule_0 rfl rfl ?_
  refine r_iconst (pc := 1) dX9_rule_1 ci_0 ?_
  refine r_iconst (pc := 2) dX9_rule_2 ci_5 ?_
  refine r_callS (pc := 3) (As := [.int v1, .int 0, .int 5]) (rest := []) lkRX9_67 (ceX9_isWithin _ _ σ v1 0 5 rfl) ⟨Nat.le_of_ble_eq_true rfl, Nat.le_of_ble_eq_true rfl⟩ rfl rfl (Nat.le_of_ble_eq_true rfl) dX9_rule_3 rfl ?_
  refine r_if_eq (pc := 6) 21 dX9_rule_6 (by decide) h (fun c1 h => ?_) (fun c1 h => ?_)
  · refine r_ldc (pc := 21) w_336 dX9_rule_21 ?_
    exact r_iretW (pc := 23) rfl dX9_rule_23 h
  · refine r_iload_n (pc := 9) 2 dX9_rule_9 rfl rfl ?_
    refine r_iconst (pc := 10) dX9_rule_10 ci_0 ?_
    refine r_iload_n (pc := 11) 1 dX9_rule_11 rfl rfl ?_
    refine r_callS (pc := 12) (As := [.int v1]) (rest := [.int 0, .int v2]) lkRX9_226 (ceX9_mostOfRule _ _ σ v1 rfl) ⟨Nat.le_of_ble_eq_true rfl, Nat.le_of_ble_eq_true rfl⟩ rfl rfl (Nat.le_of_ble_eq_true rfl) dX9_rule_12 rfl ?_
    refine r_callS (pc := 15) (As := [.int v2, .int 0, .int (fX9_mostOfRule σ v1)]) (rest := []) lkRX9_67 (ceX9_isWithin _ _ σ v2 0 (fX9_mostOfRule σ v1) rfl) ⟨Nat.le_of_ble_eq_true rfl, Nat.le_of_ble_eq_true rfl⟩ rfl rfl (Nat.le_of_ble_eq_true rfl) dX9_rule_15 rfl ?_
    refine r_if_ne (pc := 18) 24 dX9_rule_18 (by decide) h (fun c2 h => ?_) (fun c2 h => ?_)
    · refine r_ldc (pc := 21) w_336 dX9_rule_21 ?_
      exact r_iretW (pc := 23) rfl dX9_rule_23 h
    · refine r_aload_n (pc := 24) 0 dX9_rule_24 rfl rfl ?_
      refine r_getR (pc := 25) (i := 0) (j := 15) fdRX9_62 nLX_0 kLX_0 (by decide) rfl dX9_rule_25 ?_
      refine r_iload_n (pc := 28) 1 dX9_rule_28 rfl rfl ?_
      refine inb_k h (fun b1 h => ?_)
      refine r_iald (pc := 29) (i := 15) (v1.toNatClampNeg) rfl nLX_15 kLX_15 lLX_15 b1 dX9_rule_29 ?_
      refine g_bi h (fun x1 ex1 h => ?_)
      refine r_istore_n (pc := 30) (lv' := [(3, .int x1), (0, .ref (xa E 0)), (1, .int v1), (2, .int v2)]) dX9_rule_30 rfl (Nat.le_of_ble_eq_true rfl) rfl ?_
      refine r_aload_n (pc := 31) 1 dX9_rule_31 rfl rfl ?_
      refine r_getR (pc := 32) (i := 0) (j := 15) fdRX9_62 nLX_0 kLX_0 (by decide) rfl dX9_rule_32 ?_
      refine r_iload_n (pc := 35) 2 dX9_rule_35 rfl rfl ?_
      refine r_iload_n (pc := 36) 3 dX9_rule_36 rfl rfl ?_
      refine inb_k h (fun b2 h => ?_)
      refine r_iast (pc := 37) (i := 15) (v1.toNatClampNeg) (v2) rfl rfl nLX_15 kLX_15 lLX_15 b2 dX9_rule_37 ?_
      refine g_bm h (fun m1 em1 h => ?_)
      refine r_iload_n (pc := 38) 0 dX9_rule_38 rfl rfl ?_
      exact r_iretW (pc := 39) rfl dX9_rule_39 h
theorem ceX9_rule (l : Launch) (d : SD) (σ : Mem) (v1 : Int32) (v2 : Int32)  {r : Int32 × Mem} (h : fX9_rule σ v1 v2 = some r) : Me l d LX yX9_rule qX9_rule σ [.ref (d.2.2.1 0), .int v1, .int v2] (some r.1, r.2) := me_of (avs := fun d => [.ref (d.2.2.1 0), .int v1, .int v2]) (by decide) rfl (Nat.le_of_ble_eq_true rfl) (fun E => gX9_rule E σ v1 v2  h)
def fX9_takeCoins_101  (σ : Mem) (v1 : Int32) (v2 : Int32) (v3 : Int32) : Option (Int32 × Mem) :=
  bo (fX6_add σ (σ 0 9) (3 + (if 2 < v1 then 2 else v1)) (v2 - v3)) (fun z1 =>
  some (v2 - v3, z1))
set_option maxHeartbeats 4000000 in
set_option maxRecDepth 20000 in
theorem gX9_takeCoins_101 (E : XE)  {r : Int32 × Mem}  (σ : Mem) (v1 : Int32) (v2 : Int32) (v3 : Int32)  (h : fX9_takeCoins_101 σ v1 v2 v3 = some r) : G E LX qX9_takeCoins σ 101 [(0, .ref (xa E 0)), (1, .int v1), (2, .int v2), (3, .int v3)] [] (some r.1, r.2) := by
  unfold fX9_takeCoins_101 at h
  refine r_aload_n (pc := 101) 0 dX9_takeCoins_101 rfl rfl ?_
  refine r_getR (pc := 102) (i := 0) (j := 13) fdRX9_58 nLX_0 kLX_0 (by decide) rfl dX9_takeCoins_102 ?_
  refine r_aload_n (pc := 105) 0 dX9_takeCoins_105 rfl rfl ?_
  refine r_getI (pc := 106) (i := 0) fdRX9_108 nLX_0 kLX_0 (by decide) dX9_takeCoins_106 ?_
  refine r_iconst (pc := 109) dX9_takeCoins_109 ci_3 ?_
  refine r_iload_n (pc := 110) 1 dX9_takeCoins_110 rfl rfl ?_
  refine r_iconst (pc := 111) dX9_takeCoins_111 ci_2 ?_
  refine r_min (pc := 112) w_400 w_401 w_62 w_402 ⟨Nat.le_of_ble_eq_true rfl, Nat.le_of_ble_eq_true rfl⟩ dX9_takeCoins_112 ?_
  refine r_iadd (pc := 115) dX9_takeCoins_115 ?_
  refine r_iload_n (pc := 116) 2 dX9_takeCoins_116 rfl rfl ?_
  refine r_iload_n (pc := 117) 3 dX9_takeCoins_117 rfl rfl ?_
  refine r_isub (pc := 118) dX9_takeCoins_118 ?_
  refine bo_k h (fun z1 hz1 h => ?_)
  refine r_callV (pc := 119) (i := 13) (As := [.int (σ 0 9), .int (3 + (if 2 < v1 then 2 else v1)), .int (v2 - v3)]) (rest := []) lkRX9_291 (ceX6_add _ _ σ (σ 0 9) (3 + (if 2 < v1 then 2 else v1)) (v2 - v3) hz1) nLX_13 kLX_13 (by decide) rfl ⟨Nat.le_of_ble_eq_true rfl, Nat.le_of_ble_eq_true rfl⟩ rfl rfl (Nat.le_of_ble_eq_true rfl) dX9_takeCoins_119 rfl ?_
  refine r_iload_n (pc := 122) 2 dX9_takeCoins_122 rfl rfl ?_
  refine r_iload_n (pc := 123) 3 dX9_takeCoins_123 rfl rfl ?_
  refine r_isub (pc := 124) dX9_takeCoins_124 ?_
  exact r_iretW (pc := 125) rfl dX9_takeCoins_125 h
def fX9_takeCoins_36  (σ : Mem) (v1 : Int32) (v2 : Int32) (v3 : Int32) : Option (Int32 × Mem) :=
  fX9_takeCoins_101 σ v1 v2 v3
set_option maxHeartbeats 4000000 in
set_option maxRecDepth 20000 in
theorem gX9_takeCoins_36 (E : XE)  {r : Int32 × Mem}  (σ : Mem) (v1 : Int32) (v2 : Int32) (v3 : Int32)  (h : fX9_takeCoins_36 σ v1 v2 v3 = some r) : G E LX qX9_takeCoins σ 36 [(0, .ref (xa E 0)), (1, .int v1), (2, .int v2), (3, .int v3)] [] (some r.1, r.2) := by
  unfold fX9_takeCoins_36 at h
  refine r_goto (pc := 36) 101 dX9_takeCoins_36 (by decide) ?_
  exact gX9_takeCoins_101 E σ v1 v2 v3 h
def fX9_takeCoins_5  : Nat → Mem → Int32 → Int32 → Int32 → Int32 → Option (Int32 × Mem)
  | 0, _, _, _, _, _ => none
  | n + 1, σ, v1, v2, v3, v4 =>
    if 20 ≤ v4 then
      (fX9_takeCoins_101 σ v1 v2 v3)
    else
      (if v3 ≤ 0 then
        (fX9_takeCoins_101 σ v1 v2 v3)
      else
        (bo (fX3_nextToPay σ v1 (σ 0 9)) (fun z1 =>
        if z1 = (-1) then
          (fX9_takeCoins_36 σ v1 v2 v3)
        else
          (if inb z1 20 = true then
          (bi ((if σ (rfX 10 z1.toNatClampNeg) 6 < v3 then σ (rfX 10 z1.toNatClampNeg) 6 else v3)) (fun x1 =>
          if inb z1 20 = true then
          (bo (fX5_pay σ (rfX 10 z1.toNatClampNeg) v1 x1) (fun z2 =>
          bo (fX1_write z2 (z2 0 9) z1 v1 x1) (fun z3 =>
          bi (v3 - x1) (fun x2 =>
          fX9_takeCoins_5 n z3 v1 v2 x2 (v4 + 1)))))
          else none))
          else none))))
set_option maxHeartbeats 4000000 in
set_option maxRecDepth 20000 in
theorem gX9_takeCoins_5 (E : XE)  {r : Int32 × Mem}  : ∀ (n : Nat) (σ : Mem) (v1 : Int32) (v2 : Int32) (v3 : Int32) (v4 : Int32), fX9_takeCoins_5 n σ v1 v2 v3 v4 = some r → G E LX qX9_takeCoins σ 5 [(0, .ref (xa E 0)), (1, .int v1), (2, .int v2), (3, .int v3), (4, .int v4)] [] (some r.1, r.2) := by
  intro n
  induction n with
  | zero => intro σ v1 v2 v3 v4 h; cases h
  | succ n ih =>
    intro σ v1 v2 v3 v4 h
    unfold fX9_takeCoins_5 at h
    refine r_iload (pc := 5) 4 dX9_takeCoins_5 rfl ?_
    refine r_bipush (pc := 7) dX9_takeCoins_7 cb_20 ?_
    refine r_icmp_ge (pc := 9) 101 dX9_takeCoins_9 (by decide) h (fun c1 h => ?_) (fun c1 h => ?_)
    · refine r_sub [0, 1, 2, 3] rfl ?_
      exact gX9_takeCoins_101 E σ v1 v2 v3 h
    · refine r_iload_n (pc := 12) 3 dX9_takeCoins_12 rfl rfl ?_
      refine r_if_le (pc := 13) 101 dX9_takeCoins_13 (by decide) h (fun c2 h => ?_) (fun c2 h => ?_)
      · refine r_sub [0, 1, 2, 3] rfl ?_
        exact gX9_takeCoins_101 E σ v1 v2 v3 h
      · refine r_aload_n (pc := 16) 0 dX9_takeCoins_16 rfl rfl ?_
        refine r_getR (pc := 17) (i := 0) (j := 9) fdRX9_44 nLX_0 kLX_0 (by decide) rfl dX9_takeCoins_17 ?_
        refine r_iload_n (pc := 20) 1 dX9_takeCoins_20 rfl rfl ?_
        refine r_aload_n (pc := 21) 0 dX9_takeCoins_21 rfl rfl ?_
        refine r_getI (pc := 22) (i := 0) fdRX9_108 nLX_0 kLX_0 (by decide) dX9_takeCoins_22 ?_
        refine bo_k h (fun z1 hz1 h => ?_)
        refine r_callV (pc := 25) (i := 9) (As := [.int v1, .int (σ 0 9)]) (rest := []) lkRX9_295 (ceX3_nextToPay _ _ σ v1 (σ 0 9) hz1) nLX_9 kLX_9 (by decide) rfl ⟨Nat.le_of_ble_eq_true rfl, Nat.le_of_ble_eq_true rfl⟩ rfl rfl (Nat.le_of_ble_eq_true rfl) dX9_takeCoins_25 rfl ?_
        refine r_istore (pc := 28) (lv' := [(5, .int z1), (0, .ref (xa E 0)), (1, .int v1), (2, .int v2), (3, .int v3), (4, .int v4)]) dX9_takeCoins_28 (Nat.le_of_ble_eq_true rfl) rfl ?_
        refine r_iload (pc := 30) 0 dX9_takeCoins_30 rfl ?_
        refine r_iconst (pc := 32) dX9_takeCoins_32 ci_m1 ?_
        refine r_icmp_ne (pc := 33) 39 dX9_takeCoins_33 (by decide) h (fun c3 h => ?_) (fun c3 h => ?_)
        · refine r_sub [1, 2, 3, 4] rfl ?_
          exact gX9_takeCoins_36 E σ v1 v2 v3 h
        · refine r_iload_n (pc := 39) 4 dX9_takeCoins_39 rfl rfl ?_
          refine r_aload_n (pc := 40) 1 dX9_takeCoins_40 rfl rfl ?_
          refine r_getR (pc := 41) (i := 0) (j := 9) fdRX9_44 nLX_0 kLX_0 (by decide) rfl dX9_takeCoins_41 ?_
          refine r_getR (pc := 44) (i := 9) (j := 10) fdRX9_187 nLX_9 kLX_9 (by decide) rfl dX9_takeCoins_44 ?_
          refine r_iload (pc := 47) 0 dX9_takeCoins_47 rfl ?_
          refine inb_k h (fun b1 h => ?_)
          refine r_aald15 (pc := 49) (i := 10) (z1.toNatClampNeg) (rfX 10 z1.toNatClampNeg) rfl nLX_10 kLX_10 lLX_10 rfl b1 dX9_takeCoins_49 ?_
          refine r_getI (pc := 50) (i := rfX 10 z1.toNatClampNeg) fdRX9_205 (elLX_15 nLX_10 kLX_10 (inb_lt b1)).1 (elLX_15 nLX_10 kLX_10 (inb_lt b1)).2 (by decide) dX9_takeCoins_50 ?_
          refine r_min (pc := 53) w_400 w_401 w_62 w_402 ⟨Nat.le_of_ble_eq_true rfl, Nat.le_of_ble_eq_true rfl⟩ dX9_takeCoins_53 ?_
          refine g_bi h (fun x1 ex1 h => ?_)
          refine r_istore (pc := 56) (lv' := [(6, .int x1), (5, .int z1), (0, .ref (xa E 0)), (1, .int v1), (2, .int v2), (3, .int v3), (4, .int v4)]) dX9_takeCoins_56 (Nat.le_of_ble_eq_true rfl) rfl ?_
          refine r_aload_n (pc := 58) 2 dX9_takeCoins_58 rfl rfl ?_
          refine r_getR (pc := 59) (i := 0) (j := 9) fdRX9_44 nLX_0 kLX_0 (by decide) rfl dX9_takeCoins_59 ?_
          refine r_getR (pc := 62) (i := 9) (j := 10) fdRX9_187 nLX_9 kLX_9 (by decide) rfl dX9_takeCoins_62 ?_
          refine r_iload (pc := 65) 1 dX9_takeCoins_65 rfl ?_
          refine inb_k h (fun b2 h => ?_)
          refine r_aald15 (pc := 67) (i := 10) (z1.toNatClampNeg) (rfX 10 z1.toNatClampNeg) rfl nLX_10 kLX_10 lLX_10 rfl b2 dX9_takeCoins_67 ?_
          refine r_iload_n (pc := 68) 3 dX9_takeCoins_68 rfl rfl ?_
          refine r_iload (pc := 69) 0 dX9_takeCoins_69 rfl ?_
          refine bo_k h (fun z2 hz2 h => ?_)
          refine r_callV (pc := 71) (i := rfX 10 z1.toNatClampNeg) (As := [.int v1, .int x1]) (rest := []) lkRX9_298 (ceX5_pay _ _ σ (rfX 10 z1.toNatClampNeg) v1 x1 (elLX_15 nLX_10 kLX_10 (inb_lt b2)).1 (elLX_15 nLX_10 kLX_10 (inb_lt b2)).2 hz2) (elLX_15 nLX_10 kLX_10 (inb_lt b2)).1 (elLX_15 nLX_10 kLX_10 (inb_lt b2)).2 (by decide) rfl ⟨Nat.le_of_ble_eq_true rfl, Nat.le_of_ble_eq_true rfl⟩ rfl rfl (Nat.le_of_ble_eq_true rfl) dX9_takeCoins_71 rfl ?_
          refine r_aload_n (pc := 74) 2 dX9_takeCoins_74 rfl rfl ?_
          refine r_getR (pc := 75) (i := 0) (j := 11) fdRX9_51 nLX_0 kLX_0 (by decide) rfl dX9_takeCoins_75 ?_
          refine r_aload_n (pc := 78) 2 dX9_takeCoins_78 rfl rfl ?_
          refine r_getI (pc := 79) (i := 0) fdRX9_108 nLX_0 kLX_0 (by decide) dX9_takeCoins_79 ?_
          refine r_iload (pc := 82) 1 dX9_takeCoins_82 rfl ?_
          refine r_iload_n (pc := 84) 3 dX9_takeCoins_84 rfl rfl ?_
          refine r_iload (pc := 85) 0 dX9_takeCoins_85 rfl ?_
          refine bo_k h (fun z3 hz3 h => ?_)
          refine r_callV (pc := 87) (i := 11) (As := [.int (z2 0 9), .int z1, .int v1, .int x1]) (rest := []) lkRX9_301 (ceX1_write _ _ z2 (z2 0 9) z1 v1 x1 hz3) nLX_11 kLX_11 (by decide) rfl ⟨Nat.le_of_ble_eq_true rfl, Nat.le_of_ble_eq_true rfl⟩ rfl rfl (Nat.le_of_ble_eq_true rfl) dX9_takeCoins_87 rfl ?_
          refine r_iload_n (pc := 90) 5 dX9_takeCoins_90 rfl rfl ?_
          refine r_iload (pc := 91) 0 dX9_takeCoins_91 rfl ?_
          refine r_isub (pc := 93) dX9_takeCoins_93 ?_
          refine g_bi h (fun x2 ex2 h => ?_)
          refine r_istore_n (pc := 94) (lv' := [(3, .int x2), (6, .int x1), (5, .int z1), (0, .ref (xa E 0)), (1, .int v1), (2, .int v2), (4, .int v4)]) dX9_takeCoins_94 rfl (Nat.le_of_ble_eq_true rfl) rfl ?_
          refine r_iinc (pc := 95) (v := v4 + 1) (lv' := [(4, .int (v4 + 1)), (3, .int x2), (6, .int x1), (5, .int z1), (0, .ref (xa E 0)), (1, .int v1), (2, .int v2)]) 6 dX9_takeCoins_95 rfl (by rw [ci_1]) (Nat.le_of_ble_eq_true rfl) rfl ?_
          refine r_goto (pc := 98) 5 dX9_takeCoins_98 (by decide) ?_
          refine r_sub [4, 5, 6, 1, 0] rfl ?_
          exact ih z3 v1 v2 x2 (v4 + 1) h
def fX9_takeCoins (σ : Mem) (v1 : Int32) (v2 : Int32) : Option (Int32 × Mem) :=
  fX9_takeCoins_5 300 σ v1 v2 v2 0
set_option maxHeartbeats 4000000 in
set_option maxRecDepth 20000 in
theorem gX9_takeCoins (E : XE) {r : Int32 × Mem} (σ : Mem) (v1 : Int32) (v2 : Int32)  (h : fX9_takeCoins σ v1 v2 = some r) : G E LX qX9_takeCoins σ 0 [(0, .ref (xa E 0)), (1, .int v1), (2, .int v2)] [] (some r.1, r.2) := by
  unfold fX9_takeCoins at h
  refine r_iload_n (pc := 0) 2 dX9_takeCoins_0 rfl rfl ?_
  refine r_istore_n (pc := 1) (lv' := [(3, .int v2), (0, .ref (xa E 0)), (1, .int v1), (2, .int v2)]) dX9_takeCoins_1 rfl (Nat.le_of_ble_eq_true rfl) rfl ?_
  refine r_iconst (pc := 2) dX9_takeCoins_2 ci_0 ?_
  refine r_istore (pc := 3) (lv' := [(4, .int 0), (3, .int v2), (0, .ref (xa E 0)), (1, .int v1), (2, .int v2)]) dX9_takeCoins_3 (Nat.le_of_ble_eq_true rfl) rfl ?_
  refine r_sub [2, 3, 4, 1, 0] rfl ?_
  exact gX9_takeCoins_5 E 300 σ v1 v2 v2 0 h
theorem ceX9_takeCoins (l : Launch) (d : SD) (σ : Mem) (v1 : Int32) (v2 : Int32)  {r : Int32 × Mem} (h : fX9_takeCoins σ v1 v2 = some r) : Me l d LX yX9_takeCoins qX9_takeCoins σ [.ref (d.2.2.1 0), .int v1, .int v2] (some r.1, r.2) := me_of (avs := fun d => [.ref (d.2.2.1 0), .int v1, .int v2]) (by decide) rfl (Nat.le_of_ble_eq_true rfl) (fun E => gX9_takeCoins E σ v1 v2  h)
def fX9_spend (σ : Mem) (v1 : Int32) (v2 : Int32) : Option (Int32 × Mem) :=
  if fX9_isWithin σ v1 0 1 = 0 then
    (some ((-1000000001), σ))
  else
    (if fX9_isWithin σ v2 1 100000 = 0 then
      (some ((-1000000001), σ))
    else
      (bo (fX3_coinsFor σ v1 (σ 0 9)) (fun z1 =>
      if v2 ≤ z1 then
        (bo (fX9_takeCoins σ v1 v2) (fun z2 =>
        some (z2.1, z2.2)))
      else
        (some ((-1000000002), σ)))))
set_option maxHeartbeats 4000000 in
set_option maxRecDepth 20000 in
theorem gX9_spend (E : XE) {r : Int32 × Mem} (σ : Mem) (v1 : Int32) (v2 : Int32)  (h : fX9_spend σ v1 v2 = some r) : G E LX qX9_spend σ 0 [(0, .ref (xa E 0)), (1, .int v1), (2, .int v2)] [] (some r.1, r.2) := by
  unfold fX9_spend at h
  refine r_iload_n (pc := 0) 1 dX9_spend_0 rfl rfl ?_
  refine r_iconst (pc := 1) dX9_spend_1 ci_0 ?_
  refine r_iconst (pc := 2) dX9_spend_2 ci_1 ?_
  refine r_callS (pc := 3) (As := [.int v1, .int 0, .int 1]) (rest := []) lkRX9_67 (ceX9_isWithin _ _ σ v1 0 1 rfl) ⟨Nat.le_of_ble_eq_true rfl, Nat.le_of_ble_eq_true rfl⟩ rfl rfl (Nat.le_of_ble_eq_true rfl) dX9_spend_3 rfl ?_
  refine r_if_eq (pc := 6) 19 dX9_spend_6 (by decide) h (fun c1 h => ?_) (fun c1 h => ?_)
  · refine r_ldc (pc := 19) w_336 dX9_spend_19 ?_
    exact r_iretW (pc := 21) rfl dX9_spend_21 h
  · refine r_iload_n (pc := 9) 2 dX9_spend_9 rfl rfl ?_
    refine r_iconst (pc := 10) dX9_spend_10 ci_1 ?_
    refine r_ldc (pc := 11) w_625 dX9_spend_11 ?_
    refine r_callS (pc := 13) (As := [.int v2, .int 1, .int 100000]) (rest := []) lkRX9_67 (ceX9_isWithin _ _ σ v2 1 100000 rfl) ⟨Nat.le_of_ble_eq_true rfl, Nat.le_of_ble_eq_true rfl⟩ rfl rfl (Nat.le_of_ble_eq_true rfl) dX9_spend_13 rfl ?_
    refine r_if_ne (pc := 16) 22 dX9_spend_16 (by decide) h (fun c2 h => ?_) (fun c2 h => ?_)
    · refine r_ldc (pc := 19) w_336 dX9_spend_19 ?_
      exact r_iretW (pc := 21) rfl dX9_spend_21 h
    · refine r_aload_n (pc := 22) 0 dX9_spend_22 rfl rfl ?_
      refine r_getR (pc := 23) (i := 0) (j := 9) fdRX9_44 nLX_0 kLX_0 (by decide) rfl dX9_spend_23 ?_
      refine r_iload_n (pc := 26) 1 dX9_spend_26 rfl rfl ?_
      refine r_aload_n (pc := 27) 0 dX9_spend_27 rfl rfl ?_
      refine r_getI (pc := 28) (i := 0) fdRX9_108 nLX_0 kLX_0 (by decide) dX9_spend_28 ?_
      refine bo_k h (fun z1 hz1 h => ?_)
      refine r_callV (pc := 31) (i := 9) (As := [.int v1, .int (σ 0 9)]) (rest := []) lkRX9_223 (ceX3_coinsFor _ _ σ v1 (σ 0 9) hz1) nLX_9 kLX_9 (by decide) rfl ⟨Nat.le_of_ble_eq_true rfl, Nat.le_of_ble_eq_true rfl⟩ rfl rfl (Nat.le_of_ble_eq_true rfl) dX9_spend_31 rfl ?_
      refine r_iload_n (pc := 34) 2 dX9_spend_34 rfl rfl ?_
      refine r_icmp_ge (pc := 35) 43 dX9_spend_35 (by decide) h (fun c3 h => ?_) (fun c3 h => ?_)
      · refine r_aload_n (pc := 43) 0 dX9_spend_43 rfl rfl ?_
        refine r_iload_n (pc := 44) 1 dX9_spend_44 rfl rfl ?_
        refine r_iload_n (pc := 45) 2 dX9_spend_45 rfl rfl ?_
        refine bo_k h (fun z2 hz2 h => ?_)
        refine r_callV (pc := 46) (i := 0) (As := [.int v1, .int v2]) (rest := []) lkRX9_230 (ceX9_takeCoins _ _ σ v1 v2 hz2) nLX_0 kLX_0 (by decide) rfl ⟨Nat.le_of_ble_eq_true rfl, Nat.le_of_ble_eq_true rfl⟩ rfl rfl (Nat.le_of_ble_eq_true rfl) dX9_spend_46 rfl ?_
        exact r_iretW (pc := 49) rfl dX9_spend_49 h
      · refine r_ldc (pc := 38) w_355 dX9_spend_38 ?_
        refine r_goto (pc := 40) 49 dX9_spend_40 (by decide) ?_
        exact r_iretW (pc := 49) rfl dX9_spend_49 h
theorem ceX9_spend (l : Launch) (d : SD) (σ : Mem) (v1 : Int32) (v2 : Int32)  {r : Int32 × Mem} (h : fX9_spend σ v1 v2 = some r) : Me l d LX yX9_spend qX9_spend σ [.ref (d.2.2.1 0), .int v1, .int v2] (some r.1, r.2) := me_of (avs := fun d => [.ref (d.2.2.1 0), .int v1, .int v2]) (by decide) rfl (Nat.le_of_ble_eq_true rfl) (fun E => gX9_spend E σ v1 v2  h)
def fX9_workFor (σ : Mem) (v1 : Int32) (v2 : Int32) : Option (Int32 × Mem) :=
  bo (fX9_takeCoins σ (2 + v1) v2) (fun z1 =>
  if inb v1 10 = true then
  (bo (fX0_mend z1.2 (rfX 3 v1.toNatClampNeg) z1.1) (fun z2 =>
  some (z1.1, z2)))
  else none)
set_option maxHeartbeats 4000000 in
set_option maxRecDepth 20000 in
theorem gX9_workFor (E : XE) {r : Int32 × Mem} (σ : Mem) (v1 : Int32) (v2 : Int32)  (h : fX9_workFor σ v1 v2 = some r) : G E LX qX9_workFor σ 0 [(0, .ref (xa E 0)), (1, .int v1), (2, .int v2)] [] (some r.1, r.2) := by
  unfold fX9_workFor at h
  refine r_aload_n (pc := 0) 0 dX9_workFor_0 rfl rfl ?_
  refine r_iconst (pc := 1) dX9_workFor_1 ci_2 ?_
  refine r_iload_n (pc := 2) 1 dX9_workFor_2 rfl rfl ?_
  refine r_iadd (pc := 3) dX9_workFor_3 ?_
  refine r_iload_n (pc := 4) 2 dX9_workFor_4 rfl rfl ?_
  refine bo_k h (fun z1 hz1 h => ?_)
  refine r_callV (pc := 5) (i := 0) (As := [.int (2 + v1), .int v2]) (rest := []) lkRX9_230 (ceX9_takeCoins _ _ σ (2 + v1) v2 hz1) nLX_0 kLX_0 (by decide) rfl ⟨Nat.le_of_ble_eq_true rfl, Nat.le_of_ble_eq_true rfl⟩ rfl rfl (Nat.le_of_ble_eq_true rfl) dX9_workFor_5 rfl ?_
  refine r_istore_n (pc := 8) (lv' := [(3, .int z1.1), (0, .ref (xa E 0)), (1, .int v1), (2, .int v2)]) dX9_workFor_8 rfl (Nat.le_of_ble_eq_true rfl) rfl ?_
  refine r_aload_n (pc := 9) 1 dX9_workFor_9 rfl rfl ?_
  refine r_getR (pc := 10) (i := 0) (j := 1) fdRX9_12 nLX_0 kLX_0 (by decide) rfl dX9_workFor_10 ?_
  refine r_getR (pc := 13) (i := 1) (j := 3) fdRX9_85 nLX_1 kLX_1 (by decide) rfl dX9_workFor_13 ?_
  refine r_iload_n (pc := 16) 2 dX9_workFor_16 rfl rfl ?_
  refine inb_k h (fun b1 h => ?_)
  refine r_aald14 (pc := 17) (i := 3) (v1.toNatClampNeg) (rfX 3 v1.toNatClampNeg) rfl nLX_3 kLX_3 lLX_3 rfl b1 dX9_workFor_17 ?_
  refine r_iload_n (pc := 18) 0 dX9_workFor_18 rfl rfl ?_
  refine bo_k h (fun z2 hz2 h => ?_)
  refine r_callV (pc := 19) (i := rfX 3 v1.toNatClampNeg) (As := [.int z1.1]) (rest := []) lkRX9_304 (ceX0_mend _ _ z1.2 (rfX 3 v1.toNatClampNeg) z1.1 (elLX_14 nLX_3 kLX_3 (inb_lt b1)).1 (elLX_14 nLX_3 kLX_3 (inb_lt b1)).2 hz2) (elLX_14 nLX_3 kLX_3 (inb_lt b1)).1 (elLX_14 nLX_3 kLX_3 (inb_lt b1)).2 (by decide) rfl ⟨Nat.le_of_ble_eq_true rfl, Nat.le_of_ble_eq_true rfl⟩ rfl rfl (Nat.le_of_ble_eq_true rfl) dX9_workFor_19 rfl ?_
  refine r_iload_n (pc := 22) 0 dX9_workFor_22 rfl rfl ?_
  exact r_iretW (pc := 23) rfl dX9_workFor_23 h
theorem ceX9_workFor (l : Launch) (d : SD) (σ : Mem) (v1 : Int32) (v2 : Int32)  {r : Int32 × Mem} (h : fX9_workFor σ v1 v2 = some r) : Me l d LX yX9_workFor qX9_workFor σ [.ref (d.2.2.1 0), .int v1, .int v2] (some r.1, r.2) := me_of (avs := fun d => [.ref (d.2.2.1 0), .int v1, .int v2]) (by decide) rfl (Nat.le_of_ble_eq_true rfl) (fun E => gX9_workFor E σ v1 v2  h)
def fX9_work (σ : Mem) (v1 : Int32) (v2 : Int32) : Option (Int32 × Mem) :=
  if fX2_has σ 1 v1 = 0 then
    (some ((-1000000001), σ))
  else
    (if fX9_isWithin σ v2 1 100000 = 0 then
      (some ((-1000000001), σ))
    else
      (if inb v1 10 = true then
      (bo (fX0_coinsUpTo σ (rfX 3 v1.toNatClampNeg) 1000) (fun z1 =>
      bo (fX9_workFor σ v1 (if z1 < v2 then z1 else v2)) (fun z2 =>
      if z2.1 = 0 then
        (some ((-1000000002), z2.2))
      else
        (some (z2.1, z2.2)))))
      else none))
set_option maxHeartbeats 4000000 in
set_option maxRecDepth 20000 in
theorem gX9_work (E : XE) {r : Int32 × Mem} (σ : Mem) (v1 : Int32) (v2 : Int32)  (h : fX9_work σ v1 v2 = some r) : G E LX qX9_work σ 0 [(0, .ref (xa E 0)), (1, .int v1), (2, .int v2)] [] (some r.1, r.2) := by
  unfold fX9_work at h
  refine r_aload_n (pc := 0) 0 dX9_work_0 rfl rfl ?_
  refine r_getR (pc := 1) (i := 0) (j := 1) fdRX9_12 nLX_0 kLX_0 (by decide) rfl dX9_work_1 ?_
  refine r_iload_n (pc := 4) 1 dX9_work_4 rfl rfl ?_
  refine r_callV (pc := 5) (i := 1) (As := [.int v1]) (rest := []) lkRX9_81 (ceX2_has _ _ σ 1 v1 nLX_1 kLX_1 rfl) nLX_1 kLX_1 (by decide) rfl ⟨Nat.le_of_ble_eq_true rfl, Nat.le_of_ble_eq_true rfl⟩ rfl rfl (Nat.le_of_ble_eq_true rfl) dX9_work_5 rfl ?_
  refine r_if_eq (pc := 8) 21 dX9_work_8 (by decide) h (fun c1 h => ?_) (fun c1 h => ?_)
  · refine r_ldc (pc := 21) w_336 dX9_work_21 ?_
    exact r_iretW (pc := 23) rfl dX9_work_23 h
  · refine r_iload_n (pc := 11) 2 dX9_work_11 rfl rfl ?_
    refine r_iconst (pc := 12) dX9_work_12 ci_1 ?_
    refine r_ldc (pc := 13) w_625 dX9_work_13 ?_
    refine r_callS (pc := 15) (As := [.int v2, .int 1, .int 100000]) (rest := []) lkRX9_67 (ceX9_isWithin _ _ σ v2 1 100000 rfl) ⟨Nat.le_of_ble_eq_true rfl, Nat.le_of_ble_eq_true rfl⟩ rfl rfl (Nat.le_of_ble_eq_true rfl) dX9_work_15 rfl ?_
    refine r_if_ne (pc := 18) 24 dX9_work_18 (by decide) h (fun c2 h => ?_) (fun c2 h => ?_)
    · refine r_ldc (pc := 21) w_336 dX9_work_21 ?_
      exact r_iretW (pc := 23) rfl dX9_work_23 h
    · refine r_aload_n (pc := 24) 0 dX9_work_24 rfl rfl ?_
      refine r_getR (pc := 25) (i := 0) (j := 1) fdRX9_12 nLX_0 kLX_0 (by decide) rfl dX9_work_25 ?_
      refine r_getR (pc := 28) (i := 1) (j := 3) fdRX9_85 nLX_1 kLX_1 (by decide) rfl dX9_work_28 ?_
      refine r_iload_n (pc := 31) 1 dX9_work_31 rfl rfl ?_
      refine inb_k h (fun b1 h => ?_)
      refine r_aald14 (pc := 32) (i := 3) (v1.toNatClampNeg) (rfX 3 v1.toNatClampNeg) rfl nLX_3 kLX_3 lLX_3 rfl b1 dX9_work_32 ?_
      refine r_sipush (pc := 33) dX9_work_33 cs_1000 ?_
      refine bo_k h (fun z1 hz1 h => ?_)
      refine r_callV (pc := 36) (i := rfX 3 v1.toNatClampNeg) (As := [.int 1000]) (rest := []) lkRX9_233 (ceX0_coinsUpTo _ _ σ (rfX 3 v1.toNatClampNeg) 1000 (elLX_14 nLX_3 kLX_3 (inb_lt b1)).1 (elLX_14 nLX_3 kLX_3 (inb_lt b1)).2 hz1) (elLX_14 nLX_3 kLX_3 (inb_lt b1)).1 (elLX_14 nLX_3 kLX_3 (inb_lt b1)).2 (by decide) rfl ⟨Nat.le_of_ble_eq_true rfl, Nat.le_of_ble_eq_true rfl⟩ rfl rfl (Nat.le_of_ble_eq_true rfl) dX9_work_36 rfl ?_
      refine r_istore_n (pc := 39) (lv' := [(3, .int z1), (0, .ref (xa E 0)), (1, .int v1), (2, .int v2)]) dX9_work_39 rfl (Nat.le_of_ble_eq_true rfl) rfl ?_
      refine r_aload_n (pc := 40) 1 dX9_work_40 rfl rfl ?_
      refine r_iload_n (pc := 41) 2 dX9_work_41 rfl rfl ?_
      refine r_iload_n (pc := 42) 3 dX9_work_42 rfl rfl ?_
      refine r_iload_n (pc := 43) 0 dX9_work_43 rfl rfl ?_
      refine r_min (pc := 44) w_400 w_401 w_62 w_402 ⟨Nat.le_of_ble_eq_true rfl, Nat.le_of_ble_eq_true rfl⟩ dX9_work_44 ?_
      refine bo_k h (fun z2 hz2 h => ?_)
      refine r_callV (pc := 47) (i := 0) (As := [.int v1, .int ((if z1 < v2 then z1 else v2))]) (rest := []) lkRX9_241 (ceX9_workFor _ _ σ v1 (if z1 < v2 then z1 else v2) hz2) nLX_0 kLX_0 (by decide) rfl ⟨Nat.le_of_ble_eq_true rfl, Nat.le_of_ble_eq_true rfl⟩ rfl rfl (Nat.le_of_ble_eq_true rfl) dX9_work_47 rfl ?_
      refine r_istore (pc := 50) (lv' := [(4, .int z2.1), (3, .int z1), (0, .ref (xa E 0)), (1, .int v1), (2, .int v2)]) dX9_work_50 (Nat.le_of_ble_eq_true rfl) rfl ?_
      refine r_iload (pc := 52) 0 dX9_work_52 rfl ?_
      refine r_if_ne (pc := 54) 62 dX9_work_54 (by decide) h (fun c3 h => ?_) (fun c3 h => ?_)
      · refine r_ldc (pc := 57) w_355 dX9_work_57 ?_
        refine r_goto (pc := 59) 64 dX9_work_59 (by decide) ?_
        exact r_iretW (pc := 64) rfl dX9_work_64 h
      · refine r_iload (pc := 62) 0 dX9_work_62 rfl ?_
        exact r_iretW (pc := 64) rfl dX9_work_64 h
theorem ceX9_work (l : Launch) (d : SD) (σ : Mem) (v1 : Int32) (v2 : Int32)  {r : Int32 × Mem} (h : fX9_work σ v1 v2 = some r) : Me l d LX yX9_work qX9_work σ [.ref (d.2.2.1 0), .int v1, .int v2] (some r.1, r.2) := me_of (avs := fun d => [.ref (d.2.2.1 0), .int v1, .int v2]) (by decide) rfl (Nat.le_of_ble_eq_true rfl) (fun E => gX9_work E σ v1 v2  h)
def fX9_lapsePurses_2  : Nat → Mem → Int32 → Option Mem
  | 0, _, _ => none
  | n + 1, σ, v1 =>
    if σ 9 1 ≤ v1 then
      (some σ)
    else
      (if inb v1 20 = true then
      (if σ 0 9 ≤ σ (rfX 10 v1.toNatClampNeg) 3 then
        (fX9_lapsePurses_2 n σ (v1 + 1))
      else
        (if inb v1 20 = true then
        (bo (fX5_lapse σ (rfX 10 v1.toNatClampNeg)) (fun z1 =>
        bo (fX6_add z1.2 (σ 0 9) 6 z1.1) (fun z2 =>
        fX9_lapsePurses_2 n z2 (v1 + 1))))
        else none))
      else none)
set_option maxHeartbeats 4000000 in
set_option maxRecDepth 20000 in
theorem gX9_lapsePurses_2 (E : XE)  {r : Mem}  : ∀ (n : Nat) (σ : Mem) (v1 : Int32), fX9_lapsePurses_2 n σ v1 = some r → G E LX qX9_lapsePurses σ 2 [(0, .ref (xa E 0)), (1, .int v1)] [] (none, r) := by
  intro n
  induction n with
  | zero => intro σ v1 h; cases h
  | succ n ih =>
    intro σ v1 h
    unfold fX9_lapsePurses_2 at h
    refine r_iload_n (pc := 2) 1 dX9_lapsePurses_2 rfl rfl ?_
    refine r_aload_n (pc := 3) 0 dX9_lapsePurses_3 rfl rfl ?_
    refine r_getR (pc := 4) (i := 0) (j := 9) fdRX9_44 nLX_0 kLX_0 (by decide) rfl dX9_lapsePurses_4 ?_
    refine r_getI (pc := 7) (i := 9) fdRX9_179 nLX_9 kLX_9 (by decide) dX9_lapsePurses_7 ?_
    refine r_icmp_ge (pc := 10) 63 dX9_lapsePurses_10 (by decide) h (fun c1 h => ?_) (fun c1 h => ?_)
    · exact r_vret (pc := 63) rfl dX9_lapsePurses_63 (Option.some.inj h)
    · refine r_aload_n (pc := 13) 0 dX9_lapsePurses_13 rfl rfl ?_
      refine r_getR (pc := 14) (i := 0) (j := 9) fdRX9_44 nLX_0 kLX_0 (by decide) rfl dX9_lapsePurses_14 ?_
      refine r_getR (pc := 17) (i := 9) (j := 10) fdRX9_187 nLX_9 kLX_9 (by decide) rfl dX9_lapsePurses_17 ?_
      refine r_iload_n (pc := 20) 1 dX9_lapsePurses_20 rfl rfl ?_
      refine inb_k h (fun b1 h => ?_)
      refine r_aald15 (pc := 21) (i := 10) (v1.toNatClampNeg) (rfX 10 v1.toNatClampNeg) rfl nLX_10 kLX_10 lLX_10 rfl b1 dX9_lapsePurses_21 ?_
      refine r_getI (pc := 22) (i := rfX 10 v1.toNatClampNeg) fdRX9_202 (elLX_15 nLX_10 kLX_10 (inb_lt b1)).1 (elLX_15 nLX_10 kLX_10 (inb_lt b1)).2 (by decide) dX9_lapsePurses_22 ?_
      refine r_aload_n (pc := 25) 0 dX9_lapsePurses_25 rfl rfl ?_
      refine r_getI (pc := 26) (i := 0) fdRX9_108 nLX_0 kLX_0 (by decide) dX9_lapsePurses_26 ?_
      refine r_icmp_ge (pc := 29) 57 dX9_lapsePurses_29 (by decide) h (fun c2 h => ?_) (fun c2 h => ?_)
      · refine r_iinc (pc := 57) (v := v1 + 1) (lv' := [(1, .int (v1 + 1)), (0, .ref (xa E 0))]) 1 dX9_lapsePurses_57 rfl (by rw [ci_1]) (Nat.le_of_ble_eq_true rfl) rfl ?_
        refine r_goto (pc := 60) 2 dX9_lapsePurses_60 (by decide) ?_
        refine r_sub [1, 0] rfl ?_
        exact ih σ (v1 + 1) h
      · refine r_aload_n (pc := 32) 0 dX9_lapsePurses_32 rfl rfl ?_
        refine r_getR (pc := 33) (i := 0) (j := 13) fdRX9_58 nLX_0 kLX_0 (by decide) rfl dX9_lapsePurses_33 ?_
        refine r_aload_n (pc := 36) 0 dX9_lapsePurses_36 rfl rfl ?_
        refine r_getI (pc := 37) (i := 0) fdRX9_108 nLX_0 kLX_0 (by decide) dX9_lapsePurses_37 ?_
        refine r_bipush (pc := 40) dX9_lapsePurses_40 cb_6 ?_
        refine r_aload_n (pc := 42) 0 dX9_lapsePurses_42 rfl rfl ?_
        refine r_getR (pc := 43) (i := 0) (j := 9) fdRX9_44 nLX_0 kLX_0 (by decide) rfl dX9_lapsePurses_43 ?_
        refine r_getR (pc := 46) (i := 9) (j := 10) fdRX9_187 nLX_9 kLX_9 (by decide) rfl dX9_lapsePurses_46 ?_
        refine r_iload_n (pc := 49) 1 dX9_lapsePurses_49 rfl rfl ?_
        refine inb_k h (fun b2 h => ?_)
        refine r_aald15 (pc := 50) (i := 10) (v1.toNatClampNeg) (rfX 10 v1.toNatClampNeg) rfl nLX_10 kLX_10 lLX_10 rfl b2 dX9_lapsePurses_50 ?_
        refine bo_k h (fun z1 hz1 h => ?_)
        refine r_callV (pc := 51) (i := rfX 10 v1.toNatClampNeg) (As := []) (rest := [.int 6, .int (σ 0 9), .ref (xa E 13)]) lkRX9_307 (ceX5_lapse _ _ σ (rfX 10 v1.toNatClampNeg) (elLX_15 nLX_10 kLX_10 (inb_lt b2)).1 (elLX_15 nLX_10 kLX_10 (inb_lt b2)).2 hz1) (elLX_15 nLX_10 kLX_10 (inb_lt b2)).1 (elLX_15 nLX_10 kLX_10 (inb_lt b2)).2 (by decide) rfl ⟨Nat.le_of_ble_eq_true rfl, Nat.le_of_ble_eq_true rfl⟩ rfl rfl (Nat.le_of_ble_eq_true rfl) dX9_lapsePurses_51 rfl ?_
        refine bo_k h (fun z2 hz2 h => ?_)
        refine r_callV (pc := 54) (i := 13) (As := [.int (σ 0 9), .int 6, .int z1.1]) (rest := []) lkRX9_291 (ceX6_add _ _ z1.2 (σ 0 9) 6 z1.1 hz2) nLX_13 kLX_13 (by decide) rfl ⟨Nat.le_of_ble_eq_true rfl, Nat.le_of_ble_eq_true rfl⟩ rfl rfl (Nat.le_of_ble_eq_true rfl) dX9_lapsePurses_54 rfl ?_
        refine r_iinc (pc := 57) (v := v1 + 1) (lv' := [(1, .int (v1 + 1)), (0, .ref (xa E 0))]) 1 dX9_lapsePurses_57 rfl (by rw [ci_1]) (Nat.le_of_ble_eq_true rfl) rfl ?_
        refine r_goto (pc := 60) 2 dX9_lapsePurses_60 (by decide) ?_
        refine r_sub [1, 0] rfl ?_
        exact ih z2 (v1 + 1) h
def fX9_lapsePurses (σ : Mem)  : Option Mem :=
  fX9_lapsePurses_2 300 σ 1
set_option maxHeartbeats 4000000 in
set_option maxRecDepth 20000 in
theorem gX9_lapsePurses (E : XE) {r : Mem} (σ : Mem)   (h : fX9_lapsePurses σ  = some r) : G E LX qX9_lapsePurses σ 0 [(0, .ref (xa E 0))] [] (none, r) := by
  unfold fX9_lapsePurses at h
  refine r_iconst (pc := 0) dX9_lapsePurses_0 ci_1 ?_
  refine r_istore_n (pc := 1) (lv' := [(1, .int 1), (0, .ref (xa E 0))]) dX9_lapsePurses_1 rfl (Nat.le_of_ble_eq_true rfl) rfl ?_
  refine r_sub [1, 0] rfl ?_
  exact gX9_lapsePurses_2 E 300 σ 1 h
theorem ceX9_lapsePurses (l : Launch) (d : SD) (σ : Mem)   {r : Mem} (h : fX9_lapsePurses σ  = some r) : Me l d LX yX9_lapsePurses qX9_lapsePurses σ [.ref (d.2.2.1 0)] (none, r) := me_of (avs := fun d => [.ref (d.2.2.1 0)]) (by decide) rfl (Nat.le_of_ble_eq_true rfl) (fun E => gX9_lapsePurses E σ   h)
def fX9_bringGiftsOfYear_2  : Nat → Mem → Int32 → Option Mem
  | 0, _, _ => none
  | n + 1, σ, v1 =>
    if σ 9 1 ≤ v1 then
      (some σ)
    else
      (if inb v1 20 = true then
      (if fX5_isDue σ (rfX 10 v1.toNatClampNeg) (σ 0 9) = 0 then
        (fX9_bringGiftsOfYear_2 n σ (v1 + 1))
      else
        (if inb v1 20 = true then
        (bo (fX9_bringGift σ (rfX 10 v1.toNatClampNeg)) (fun z1 =>
        fX9_bringGiftsOfYear_2 n z1 (v1 + 1)))
        else none))
      else none)
set_option maxHeartbeats 4000000 in
set_option maxRecDepth 20000 in
theorem gX9_bringGiftsOfYear_2 (E : XE)  {r : Mem}  : ∀ (n : Nat) (σ : Mem) (v1 : Int32), fX9_bringGiftsOfYear_2 n σ v1 = some r → G E LX qX9_bringGiftsOfYear σ 2 [(0, .ref (xa E 0)), (1, .int v1)] [] (none, r) := by
  intro n
  induction n with
  | zero => intro σ v1 h; cases h
  | succ n ih =>
    intro σ v1 h
    unfold fX9_bringGiftsOfYear_2 at h
    refine r_iload_n (pc := 2) 1 dX9_bringGiftsOfYear_2 rfl rfl ?_
    refine r_aload_n (pc := 3) 0 dX9_bringGiftsOfYear_3 rfl rfl ?_
    refine r_getR (pc := 4) (i := 0) (j := 9) fdRX9_44 nLX_0 kLX_0 (by decide) rfl dX9_bringGiftsOfYear_4 ?_
    refine r_getI (pc := 7) (i := 9) fdRX9_179 nLX_9 kLX_9 (by decide) dX9_bringGiftsOfYear_7 ?_
    refine r_icmp_ge (pc := 10) 51 dX9_bringGiftsOfYear_10 (by decide) h (fun c1 h => ?_) (fun c1 h => ?_)
    · exact r_vret (pc := 51) rfl dX9_bringGiftsOfYear_51 (Option.some.inj h)
    · refine r_aload_n (pc := 13) 0 dX9_bringGiftsOfYear_13 rfl rfl ?_
      refine r_getR (pc := 14) (i := 0) (j := 9) fdRX9_44 nLX_0 kLX_0 (by decide) rfl dX9_bringGiftsOfYear_14 ?_
      refine r_getR (pc := 17) (i := 9) (j := 10) fdRX9_187 nLX_9 kLX_9 (by decide) rfl dX9_bringGiftsOfYear_17 ?_
      refine r_iload_n (pc := 20) 1 dX9_bringGiftsOfYear_20 rfl rfl ?_
      refine inb_k h (fun b1 h => ?_)
      refine r_aald15 (pc := 21) (i := 10) (v1.toNatClampNeg) (rfX 10 v1.toNatClampNeg) rfl nLX_10 kLX_10 lLX_10 rfl b1 dX9_bringGiftsOfYear_21 ?_
      refine r_aload_n (pc := 22) 0 dX9_bringGiftsOfYear_22 rfl rfl ?_
      refine r_getI (pc := 23) (i := 0) fdRX9_108 nLX_0 kLX_0 (by decide) dX9_bringGiftsOfYear_23 ?_
      refine r_callV (pc := 26) (i := rfX 10 v1.toNatClampNeg) (As := [.int (σ 0 9)]) (rest := []) lkRX9_310 (ceX5_isDue _ _ σ (rfX 10 v1.toNatClampNeg) (σ 0 9) (elLX_15 nLX_10 kLX_10 (inb_lt b1)).1 (elLX_15 nLX_10 kLX_10 (inb_lt b1)).2 rfl) (elLX_15 nLX_10 kLX_10 (inb_lt b1)).1 (elLX_15 nLX_10 kLX_10 (inb_lt b1)).2 (by decide) rfl ⟨Nat.le_of_ble_eq_true rfl, Nat.le_of_ble_eq_true rfl⟩ rfl rfl (Nat.le_of_ble_eq_true rfl) dX9_bringGiftsOfYear_26 rfl ?_
      refine r_if_eq (pc := 29) 45 dX9_bringGiftsOfYear_29 (by decide) h (fun c2 h => ?_) (fun c2 h => ?_)
      · refine r_iinc (pc := 45) (v := v1 + 1) (lv' := [(1, .int (v1 + 1)), (0, .ref (xa E 0))]) 1 dX9_bringGiftsOfYear_45 rfl (by rw [ci_1]) (Nat.le_of_ble_eq_true rfl) rfl ?_
        refine r_goto (pc := 48) 2 dX9_bringGiftsOfYear_48 (by decide) ?_
        refine r_sub [1, 0] rfl ?_
        exact ih σ (v1 + 1) h
      · refine r_aload_n (pc := 32) 0 dX9_bringGiftsOfYear_32 rfl rfl ?_
        refine r_aload_n (pc := 33) 0 dX9_bringGiftsOfYear_33 rfl rfl ?_
        refine r_getR (pc := 34) (i := 0) (j := 9) fdRX9_44 nLX_0 kLX_0 (by decide) rfl dX9_bringGiftsOfYear_34 ?_
        refine r_getR (pc := 37) (i := 9) (j := 10) fdRX9_187 nLX_9 kLX_9 (by decide) rfl dX9_bringGiftsOfYear_37 ?_
        refine r_iload_n (pc := 40) 1 dX9_bringGiftsOfYear_40 rfl rfl ?_
        refine inb_k h (fun b2 h => ?_)
        refine r_aald15 (pc := 41) (i := 10) (v1.toNatClampNeg) (rfX 10 v1.toNatClampNeg) rfl nLX_10 kLX_10 lLX_10 rfl b2 dX9_bringGiftsOfYear_41 ?_
        refine bo_k h (fun z1 hz1 h => ?_)
        refine r_callV (pc := 42) (i := 0) (As := [.ref (xa E (rfX 10 v1.toNatClampNeg))]) (rest := []) lkRX9_191 (ceX9_bringGift _ _ σ (rfX 10 v1.toNatClampNeg) (elLX_15 nLX_10 kLX_10 (inb_lt b2)).1 (elLX_15 nLX_10 kLX_10 (inb_lt b2)).2 hz1) nLX_0 kLX_0 (by decide) rfl ⟨Nat.le_of_ble_eq_true rfl, Nat.le_of_ble_eq_true rfl⟩ rfl rfl (Nat.le_of_ble_eq_true rfl) dX9_bringGiftsOfYear_42 rfl ?_
        refine r_iinc (pc := 45) (v := v1 + 1) (lv' := [(1, .int (v1 + 1)), (0, .ref (xa E 0))]) 1 dX9_bringGiftsOfYear_45 rfl (by rw [ci_1]) (Nat.le_of_ble_eq_true rfl) rfl ?_
        refine r_goto (pc := 48) 2 dX9_bringGiftsOfYear_48 (by decide) ?_
        refine r_sub [1, 0] rfl ?_
        exact ih z1 (v1 + 1) h
def fX9_bringGiftsOfYear (σ : Mem)  : Option Mem :=
  fX9_bringGiftsOfYear_2 300 σ 1
set_option maxHeartbeats 4000000 in
set_option maxRecDepth 20000 in
theorem gX9_bringGiftsOfYear (E : XE) {r : Mem} (σ : Mem)   (h : fX9_bringGiftsOfYear σ  = some r) : G E LX qX9_bringGiftsOfYear σ 0 [(0, .ref (xa E 0))] [] (none, r) := by
  unfold fX9_bringGiftsOfYear at h
  refine r_iconst (pc := 0) dX9_bringGiftsOfYear_0 ci_1 ?_
  refine r_istore_n (pc := 1) (lv' := [(1, .int 1), (0, .ref (xa E 0))]) dX9_bringGiftsOfYear_1 rfl (Nat.le_of_ble_eq_true rfl) rfl ?_
  refine r_sub [1, 0] rfl ?_
  exact gX9_bringGiftsOfYear_2 E 300 σ 1 h
theorem ceX9_bringGiftsOfYear (l : Launch) (d : SD) (σ : Mem)   {r : Mem} (h : fX9_bringGiftsOfYear σ  = some r) : Me l d LX yX9_bringGiftsOfYear qX9_bringGiftsOfYear σ [.ref (d.2.2.1 0)] (none, r) := me_of (avs := fun d => [.ref (d.2.2.1 0)]) (by decide) rfl (Nat.le_of_ble_eq_true rfl) (fun E => gX9_bringGiftsOfYear E σ   h)
def fX9_bringTolls_41 (c20 : Mem → Int32 → Int32 → Int32 → Option Mem) (σ : Mem) (v1 : Int32) (v2 : Int32) (v3 : Int32) (t0 : Int32) : Option Mem :=
  if t0 = 0 then
    (c20 σ v1 v2 (v3 + 1))
  else
    (if inb v3 6 = true then
    (if inb (1 + v3) 4 = true then
    (bo (fX7_inYear σ (rfX 5 ((1 + v3).toNatClampNeg)) (σ 0 9)) (fun z1 =>
    bi (v2 + ((σ 15 v3.toNatClampNeg) * z1)) (fun x1 =>
    c20 σ v1 x1 (v3 + 1))))
    else none)
    else none)
set_option maxHeartbeats 4000000 in
set_option maxRecDepth 20000 in
theorem gX9_bringTolls_41 (E : XE) (c20 : Mem → Int32 → Int32 → Int32 → Option Mem) {r : Mem} (hc20 : ∀ (σ : Mem) (v1 : Int32) (v2 : Int32) (v3 : Int32), c20 σ v1 v2 v3 = some r → G E LX qX9_bringTolls σ 20 [(0, .ref (xa E 0)), (1, .int v1), (2, .int v2), (3, .int v3)] [] (none, r)) (σ : Mem) (v1 : Int32) (v2 : Int32) (v3 : Int32) (t0 : Int32)  (h : fX9_bringTolls_41 c20 σ v1 v2 v3 t0 = some r) : G E LX qX9_bringTolls σ 41 [(0, .ref (xa E 0)), (1, .int v1), (2, .int v2), (3, .int v3)] [.int t0] (none, r) := by
  unfold fX9_bringTolls_41 at h
  refine r_istore (pc := 41) (lv' := [(4, .int t0), (0, .ref (xa E 0)), (1, .int v1), (2, .int v2), (3, .int v3)]) dX9_bringTolls_41 (Nat.le_of_ble_eq_true rfl) rfl ?_
  refine r_iload (pc := 43) 0 dX9_bringTolls_43 rfl ?_
  refine r_if_eq (pc := 45) 73 dX9_bringTolls_45 (by decide) h (fun c1 h => ?_) (fun c1 h => ?_)
  · refine r_iinc (pc := 73) (v := v3 + 1) (lv' := [(3, .int (v3 + 1)), (4, .int t0), (0, .ref (xa E 0)), (1, .int v1), (2, .int v2)]) 4 dX9_bringTolls_73 rfl (by rw [ci_1]) (Nat.le_of_ble_eq_true rfl) rfl ?_
    refine r_goto (pc := 76) 20 dX9_bringTolls_76 (by decide) ?_
    refine r_sub [2, 3, 4, 0] rfl ?_
    exact hc20 σ v1 v2 (v3 + 1) h
  · refine r_iload_n (pc := 48) 3 dX9_bringTolls_48 rfl rfl ?_
    refine r_aload_n (pc := 49) 1 dX9_bringTolls_49 rfl rfl ?_
    refine r_getR (pc := 50) (i := 0) (j := 15) fdRX9_62 nLX_0 kLX_0 (by decide) rfl dX9_bringTolls_50 ?_
    refine r_iload_n (pc := 53) 4 dX9_bringTolls_53 rfl rfl ?_
    refine inb_k h (fun b1 h => ?_)
    refine r_iald (pc := 54) (i := 15) (v3.toNatClampNeg) rfl nLX_15 kLX_15 lLX_15 b1 dX9_bringTolls_54 ?_
    refine r_aload_n (pc := 55) 1 dX9_bringTolls_55 rfl rfl ?_
    refine r_getR (pc := 56) (i := 0) (j := 5) fdRX9_21 nLX_0 kLX_0 (by decide) rfl dX9_bringTolls_56 ?_
    refine r_iconst (pc := 59) dX9_bringTolls_59 ci_1 ?_
    refine r_iload_n (pc := 60) 4 dX9_bringTolls_60 rfl rfl ?_
    refine r_iadd (pc := 61) dX9_bringTolls_61 ?_
    refine inb_k h (fun b2 h => ?_)
    refine r_aald16 (pc := 62) (i := 5) ((1 + v3).toNatClampNeg) (rfX 5 ((1 + v3).toNatClampNeg)) rfl nLX_5 kLX_5 lLX_5 rfl b2 dX9_bringTolls_62 ?_
    refine r_aload_n (pc := 63) 1 dX9_bringTolls_63 rfl rfl ?_
    refine r_getI (pc := 64) (i := 0) fdRX9_108 nLX_0 kLX_0 (by decide) dX9_bringTolls_64 ?_
    refine bo_k h (fun z1 hz1 h => ?_)
    refine r_callV (pc := 67) (i := rfX 5 ((1 + v3).toNatClampNeg)) (As := [.int (σ 0 9)]) (rest := [.int (σ 15 v3.toNatClampNeg), .int v2]) lkRX9_111 (ceX7_inYear _ _ σ (rfX 5 ((1 + v3).toNatClampNeg)) (σ 0 9) (elLX_16 nLX_5 kLX_5 (inb_lt b2)).1 (elLX_16 nLX_5 kLX_5 (inb_lt b2)).2 hz1) (elLX_16 nLX_5 kLX_5 (inb_lt b2)).1 (elLX_16 nLX_5 kLX_5 (inb_lt b2)).2 (by decide) rfl ⟨Nat.le_of_ble_eq_true rfl, Nat.le_of_ble_eq_true rfl⟩ rfl rfl (Nat.le_of_ble_eq_true rfl) dX9_bringTolls_67 rfl ?_
    refine r_imul (pc := 70) dX9_bringTolls_70 ?_
    refine r_iadd (pc := 71) dX9_bringTolls_71 ?_
    refine g_bi h (fun x1 ex1 h => ?_)
    refine r_istore_n (pc := 72) (lv' := [(2, .int x1), (4, .int t0), (0, .ref (xa E 0)), (1, .int v1), (3, .int v3)]) dX9_bringTolls_72 rfl (Nat.le_of_ble_eq_true rfl) rfl ?_
    refine r_iinc (pc := 73) (v := v3 + 1) (lv' := [(3, .int (v3 + 1)), (2, .int x1), (4, .int t0), (0, .ref (xa E 0)), (1, .int v1)]) 4 dX9_bringTolls_73 rfl (by rw [ci_1]) (Nat.le_of_ble_eq_true rfl) rfl ?_
    refine r_goto (pc := 76) 20 dX9_bringTolls_76 (by decide) ?_
    refine r_sub [3, 4, 1, 0] rfl ?_
    exact hc20 σ v1 x1 (v3 + 1) h
def fX9_bringTolls_79  (σ : Mem) (v2 : Int32) : Option Mem :=
  bo (fX5_receive σ 44 v2) (fun z1 =>
  bo (fX6_add z1 (z1 0 9) 1 v2) (fun z2 =>
  some z2))
set_option maxHeartbeats 4000000 in
set_option maxRecDepth 20000 in
theorem gX9_bringTolls_79 (E : XE)  {r : Mem}  (σ : Mem) (v2 : Int32)  (h : fX9_bringTolls_79 σ v2 = some r) : G E LX qX9_bringTolls σ 79 [(0, .ref (xa E 0)), (2, .int v2)] [] (none, r) := by
  unfold fX9_bringTolls_79 at h
  refine r_aload_n (pc := 79) 0 dX9_bringTolls_79 rfl rfl ?_
  refine r_getR (pc := 80) (i := 0) (j := 9) fdRX9_44 nLX_0 kLX_0 (by decide) rfl dX9_bringTolls_80 ?_
  refine r_getR (pc := 83) (i := 9) (j := 10) fdRX9_187 nLX_9 kLX_9 (by decide) rfl dX9_bringTolls_83 ?_
  refine r_iconst (pc := 86) dX9_bringTolls_86 ci_0 ?_
  refine r_aald15 (pc := 87) (i := 10) (0) (44) (by decide) nLX_10 kLX_10 lLX_10 rfl (by decide) dX9_bringTolls_87 ?_
  refine r_iload_n (pc := 88) 1 dX9_bringTolls_88 rfl rfl ?_
  refine bo_k h (fun z1 hz1 h => ?_)
  refine r_callV (pc := 89) (i := 44) (As := [.int v2]) (rest := []) lkRX9_288 (ceX5_receive _ _ σ 44 v2 nLX_44 kLX_44 hz1) nLX_44 kLX_44 (by decide) rfl ⟨Nat.le_of_ble_eq_true rfl, Nat.le_of_ble_eq_true rfl⟩ rfl rfl (Nat.le_of_ble_eq_true rfl) dX9_bringTolls_89 rfl ?_
  refine r_aload_n (pc := 92) 0 dX9_bringTolls_92 rfl rfl ?_
  refine r_getR (pc := 93) (i := 0) (j := 13) fdRX9_58 nLX_0 kLX_0 (by decide) rfl dX9_bringTolls_93 ?_
  refine r_aload_n (pc := 96) 0 dX9_bringTolls_96 rfl rfl ?_
  refine r_getI (pc := 97) (i := 0) fdRX9_108 nLX_0 kLX_0 (by decide) dX9_bringTolls_97 ?_
  refine r_iconst (pc := 100) dX9_bringTolls_100 ci_1 ?_
  refine r_iload_n (pc := 101) 1 dX9_bringTolls_101 rfl rfl ?_
  refine bo_k h (fun z2 hz2 h => ?_)
  refine r_callV (pc := 102) (i := 13) (As := [.int (z1 0 9), .int 1, .int v2]) (rest := []) lkRX9_291 (ceX6_add _ _ z1 (z1 0 9) 1 v2 hz2) nLX_13 kLX_13 (by decide) rfl ⟨Nat.le_of_ble_eq_true rfl, Nat.le_of_ble_eq_true rfl⟩ rfl rfl (Nat.le_of_ble_eq_true rfl) dX9_bringTolls_102 rfl ?_
  exact r_vret (pc := 105) rfl dX9_bringTolls_105 (Option.some.inj h)
def fX9_bringTolls_20  : Nat → Mem → Int32 → Int32 → Int32 → Option Mem
  | 0, _, _, _, _ => none
  | n + 1, σ, v1, v2, v3 =>
    if 3 ≤ v3 then
      (fX9_bringTolls_79 σ v2)
    else
      (if 2 ≤ v3 then
        (bo (fX2_hasDraw σ 1) (fun z1 =>
        fX9_bringTolls_41 (fun σ_ v1_ v2_ v3_ => fX9_bringTolls_20 n σ_ v1_ v2_ v3_) σ v1 v2 v3 z1))
      else
        (fX9_bringTolls_41 (fun σ_ v1_ v2_ v3_ => fX9_bringTolls_20 n σ_ v1_ v2_ v3_) σ v1 v2 v3 v1))
set_option maxHeartbeats 4000000 in
set_option maxRecDepth 20000 in
theorem gX9_bringTolls_20 (E : XE)  {r : Mem}  : ∀ (n : Nat) (σ : Mem) (v1 : Int32) (v2 : Int32) (v3 : Int32), fX9_bringTolls_20 n σ v1 v2 v3 = some r → G E LX qX9_bringTolls σ 20 [(0, .ref (xa E 0)), (1, .int v1), (2, .int v2), (3, .int v3)] [] (none, r) := by
  intro n
  induction n with
  | zero => intro σ v1 v2 v3 h; cases h
  | succ n ih =>
    intro σ v1 v2 v3 h
    unfold fX9_bringTolls_20 at h
    refine r_iload_n (pc := 20) 3 dX9_bringTolls_20 rfl rfl ?_
    refine r_iconst (pc := 21) dX9_bringTolls_21 ci_3 ?_
    refine r_icmp_ge (pc := 22) 79 dX9_bringTolls_22 (by decide) h (fun c1 h => ?_) (fun c1 h => ?_)
    · refine r_sub [0, 2] rfl ?_
      exact gX9_bringTolls_79 E σ v2 h
    · refine r_iload_n (pc := 25) 3 dX9_bringTolls_25 rfl rfl ?_
      refine r_iconst (pc := 26) dX9_bringTolls_26 ci_2 ?_
      refine r_icmp_ge (pc := 27) 34 dX9_bringTolls_27 (by decide) h (fun c2 h => ?_) (fun c2 h => ?_)
      · refine r_aload_n (pc := 34) 0 dX9_bringTolls_34 rfl rfl ?_
        refine r_getR (pc := 35) (i := 0) (j := 1) fdRX9_12 nLX_0 kLX_0 (by decide) rfl dX9_bringTolls_35 ?_
        refine bo_k h (fun z1 hz1 h => ?_)
        refine r_callV (pc := 38) (i := 1) (As := []) (rest := []) lkRX9_313 (ceX2_hasDraw _ _ σ 1 nLX_1 kLX_1 hz1) nLX_1 kLX_1 (by decide) rfl ⟨Nat.le_of_ble_eq_true rfl, Nat.le_of_ble_eq_true rfl⟩ rfl rfl (Nat.le_of_ble_eq_true rfl) dX9_bringTolls_38 rfl ?_
        exact gX9_bringTolls_41 E (fun σ_ v1_ v2_ v3_ => fX9_bringTolls_20 n σ_ v1_ v2_ v3_) ih σ v1 v2 v3 z1 h
      · refine r_iload_n (pc := 30) 1 dX9_bringTolls_30 rfl rfl ?_
        refine r_goto (pc := 31) 41 dX9_bringTolls_31 (by decide) ?_
        exact gX9_bringTolls_41 E (fun σ_ v1_ v2_ v3_ => fX9_bringTolls_20 n σ_ v1_ v2_ v3_) ih σ v1 v2 v3 v1 h
def fX9_bringTolls_15  (σ : Mem) (t0 : Int32) : Option Mem :=
  fX9_bringTolls_20 300 σ t0 0 0
set_option maxHeartbeats 4000000 in
set_option maxRecDepth 20000 in
theorem gX9_bringTolls_15 (E : XE)  {r : Mem}  (σ : Mem) (t0 : Int32)  (h : fX9_bringTolls_15 σ t0 = some r) : G E LX qX9_bringTolls σ 15 [(0, .ref (xa E 0))] [.int t0] (none, r) := by
  unfold fX9_bringTolls_15 at h
  refine r_istore_n (pc := 15) (lv' := [(1, .int t0), (0, .ref (xa E 0))]) dX9_bringTolls_15 rfl (Nat.le_of_ble_eq_true rfl) rfl ?_
  refine r_iconst (pc := 16) dX9_bringTolls_16 ci_0 ?_
  refine r_istore_n (pc := 17) (lv' := [(2, .int 0), (1, .int t0), (0, .ref (xa E 0))]) dX9_bringTolls_17 rfl (Nat.le_of_ble_eq_true rfl) rfl ?_
  refine r_iconst (pc := 18) dX9_bringTolls_18 ci_0 ?_
  refine r_istore_n (pc := 19) (lv' := [(3, .int 0), (2, .int 0), (1, .int t0), (0, .ref (xa E 0))]) dX9_bringTolls_19 rfl (Nat.le_of_ble_eq_true rfl) rfl ?_
  refine r_sub [3, 2, 1, 0] rfl ?_
  exact gX9_bringTolls_20 E 300 σ t0 0 0 h
def fX9_bringTolls (σ : Mem)  : Option Mem :=
  bo (fX2_fallen σ 1) (fun z1 =>
  if z1 = 0 then
    (fX9_bringTolls_15 σ 1)
  else
    (fX9_bringTolls_15 σ 0))
set_option maxHeartbeats 4000000 in
set_option maxRecDepth 20000 in
theorem gX9_bringTolls (E : XE) {r : Mem} (σ : Mem)   (h : fX9_bringTolls σ  = some r) : G E LX qX9_bringTolls σ 0 [(0, .ref (xa E 0))] [] (none, r) := by
  unfold fX9_bringTolls at h
  refine r_aload_n (pc := 0) 0 dX9_bringTolls_0 rfl rfl ?_
  refine r_getR (pc := 1) (i := 0) (j := 1) fdRX9_12 nLX_0 kLX_0 (by decide) rfl dX9_bringTolls_1 ?_
  refine bo_k h (fun z1 hz1 h => ?_)
  refine r_callV (pc := 4) (i := 1) (As := []) (rest := []) lkRX9_273 (ceX2_fallen _ _ σ 1 nLX_1 kLX_1 hz1) nLX_1 kLX_1 (by decide) rfl ⟨Nat.le_of_ble_eq_true rfl, Nat.le_of_ble_eq_true rfl⟩ rfl rfl (Nat.le_of_ble_eq_true rfl) dX9_bringTolls_4 rfl ?_
  refine r_if_ne (pc := 7) 14 dX9_bringTolls_7 (by decide) h (fun c1 h => ?_) (fun c1 h => ?_)
  · refine r_iconst (pc := 10) dX9_bringTolls_10 ci_1 ?_
    refine r_goto (pc := 11) 15 dX9_bringTolls_11 (by decide) ?_
    exact gX9_bringTolls_15 E σ 1 h
  · refine r_iconst (pc := 14) dX9_bringTolls_14 ci_0 ?_
    exact gX9_bringTolls_15 E σ 0 h
theorem ceX9_bringTolls (l : Launch) (d : SD) (σ : Mem)   {r : Mem} (h : fX9_bringTolls σ  = some r) : Me l d LX yX9_bringTolls qX9_bringTolls σ [.ref (d.2.2.1 0)] (none, r) := me_of (avs := fun d => [.ref (d.2.2.1 0)]) (by decide) rfl (Nat.le_of_ble_eq_true rfl) (fun E => gX9_bringTolls E σ   h)
def fX9_bringRents (σ : Mem)  : Option Mem :=
  bo (fX2_houses σ 1) (fun z1 =>
  bi ((σ 15 3) * z1) (fun x1 =>
  bo (fX5_receive σ 44 x1) (fun z2 =>
  bo (fX6_add z2 (z2 0 9) 2 x1) (fun z3 =>
  some z3))))
set_option maxHeartbeats 4000000 in
set_option maxRecDepth 20000 in
theorem gX9_bringRents (E : XE) {r : Mem} (σ : Mem)   (h : fX9_bringRents σ  = some r) : G E LX qX9_bringRents σ 0 [(0, .ref (xa E 0))] [] (none, r) := by
  unfold fX9_bringRents at h
  refine r_aload_n (pc := 0) 0 dX9_bringRents_0 rfl rfl ?_
  refine r_getR (pc := 1) (i := 0) (j := 15) fdRX9_62 nLX_0 kLX_0 (by decide) rfl dX9_bringRents_1 ?_
  refine r_iconst (pc := 4) dX9_bringRents_4 ci_3 ?_
  refine r_iald (pc := 5) (i := 15) (3) (by decide) nLX_15 kLX_15 lLX_15 (by decide) dX9_bringRents_5 ?_
  refine r_aload_n (pc := 6) 0 dX9_bringRents_6 rfl rfl ?_
  refine r_getR (pc := 7) (i := 0) (j := 1) fdRX9_12 nLX_0 kLX_0 (by decide) rfl dX9_bringRents_7 ?_
  refine bo_k h (fun z1 hz1 h => ?_)
  refine r_callV (pc := 10) (i := 1) (As := []) (rest := [.int (σ 15 3)]) lkRX9_276 (ceX2_houses _ _ σ 1 nLX_1 kLX_1 hz1) nLX_1 kLX_1 (by decide) rfl ⟨Nat.le_of_ble_eq_true rfl, Nat.le_of_ble_eq_true rfl⟩ rfl rfl (Nat.le_of_ble_eq_true rfl) dX9_bringRents_10 rfl ?_
  refine r_imul (pc := 13) dX9_bringRents_13 ?_
  refine g_bi h (fun x1 ex1 h => ?_)
  refine r_istore_n (pc := 14) (lv' := [(1, .int x1), (0, .ref (xa E 0))]) dX9_bringRents_14 rfl (Nat.le_of_ble_eq_true rfl) rfl ?_
  refine r_aload_n (pc := 15) 1 dX9_bringRents_15 rfl rfl ?_
  refine r_getR (pc := 16) (i := 0) (j := 9) fdRX9_44 nLX_0 kLX_0 (by decide) rfl dX9_bringRents_16 ?_
  refine r_getR (pc := 19) (i := 9) (j := 10) fdRX9_187 nLX_9 kLX_9 (by decide) rfl dX9_bringRents_19 ?_
  refine r_iconst (pc := 22) dX9_bringRents_22 ci_0 ?_
  refine r_aald15 (pc := 23) (i := 10) (0) (44) (by decide) nLX_10 kLX_10 lLX_10 rfl (by decide) dX9_bringRents_23 ?_
  refine r_iload_n (pc := 24) 0 dX9_bringRents_24 rfl rfl ?_
  refine bo_k h (fun z2 hz2 h => ?_)
  refine r_callV (pc := 25) (i := 44) (As := [.int x1]) (rest := []) lkRX9_288 (ceX5_receive _ _ σ 44 x1 nLX_44 kLX_44 hz2) nLX_44 kLX_44 (by decide) rfl ⟨Nat.le_of_ble_eq_true rfl, Nat.le_of_ble_eq_true rfl⟩ rfl rfl (Nat.le_of_ble_eq_true rfl) dX9_bringRents_25 rfl ?_
  refine r_aload_n (pc := 28) 1 dX9_bringRents_28 rfl rfl ?_
  refine r_getR (pc := 29) (i := 0) (j := 13) fdRX9_58 nLX_0 kLX_0 (by decide) rfl dX9_bringRents_29 ?_
  refine r_aload_n (pc := 32) 1 dX9_bringRents_32 rfl rfl ?_
  refine r_getI (pc := 33) (i := 0) fdRX9_108 nLX_0 kLX_0 (by decide) dX9_bringRents_33 ?_
  refine r_iconst (pc := 36) dX9_bringRents_36 ci_2 ?_
  refine r_iload_n (pc := 37) 0 dX9_bringRents_37 rfl rfl ?_
  refine bo_k h (fun z3 hz3 h => ?_)
  refine r_callV (pc := 38) (i := 13) (As := [.int (z2 0 9), .int 2, .int x1]) (rest := []) lkRX9_291 (ceX6_add _ _ z2 (z2 0 9) 2 x1 hz3) nLX_13 kLX_13 (by decide) rfl ⟨Nat.le_of_ble_eq_true rfl, Nat.le_of_ble_eq_true rfl⟩ rfl rfl (Nat.le_of_ble_eq_true rfl) dX9_bringRents_38 rfl ?_
  exact r_vret (pc := 41) rfl dX9_bringRents_41 (Option.some.inj h)
theorem ceX9_bringRents (l : Launch) (d : SD) (σ : Mem)   {r : Mem} (h : fX9_bringRents σ  = some r) : Me l d LX yX9_bringRents qX9_bringRents σ [.ref (d.2.2.1 0)] (none, r) := me_of (avs := fun d => [.ref (d.2.2.1 0)]) (by decide) rfl (Nat.le_of_ble_eq_true rfl) (fun E => gX9_bringRents E σ   h)
def fX9_keepUp_9  : Nat → Mem → Int32 → Option Mem
  | 0, _, _ => none
  | n + 1, σ, v1 =>
    if σ 15 4 ≤ v1 then
      (some σ)
    else
      (bo (fX2_weakestBelow σ 1 (σ 15 5)) (fun z1 =>
      if z1 = (-1) then
        (some σ)
      else
        (if inb z1 10 = true then
        (bm (mset σ (rfX 3 z1.toNatClampNeg) 5 1) (fun m1 =>
        if inb z1 10 = true then
        (bo (fX0_coinsUpTo m1 (rfX 3 z1.toNatClampNeg) (m1 15 5)) (fun z2 =>
        bo (fX9_workFor m1 z1 z2) (fun z3 =>
        fX9_keepUp_9 n z3.2 (v1 + 1))))
        else none))
        else none)))
set_option maxHeartbeats 4000000 in
set_option maxRecDepth 20000 in
theorem gX9_keepUp_9 (E : XE)  {r : Mem}  : ∀ (n : Nat) (σ : Mem) (v1 : Int32), fX9_keepUp_9 n σ v1 = some r → G E LX qX9_keepUp σ 9 [(0, .ref (xa E 0)), (1, .int v1)] [] (none, r) := by
  intro n
  induction n with
  | zero => intro σ v1 h; cases h
  | succ n ih =>
    intro σ v1 h
    unfold fX9_keepUp_9 at h
    refine r_iload_n (pc := 9) 1 dX9_keepUp_9 rfl rfl ?_
    refine r_aload_n (pc := 10) 0 dX9_keepUp_10 rfl rfl ?_
    refine r_getR (pc := 11) (i := 0) (j := 15) fdRX9_62 nLX_0 kLX_0 (by decide) rfl dX9_keepUp_11 ?_
    refine r_iconst (pc := 14) dX9_keepUp_14 ci_4 ?_
    refine r_iald (pc := 15) (i := 15) (4) (by decide) nLX_15 kLX_15 lLX_15 (by decide) dX9_keepUp_15 ?_
    refine r_icmp_ge (pc := 16) 84 dX9_keepUp_16 (by decide) h (fun c1 h => ?_) (fun c1 h => ?_)
    · exact r_vret (pc := 84) rfl dX9_keepUp_84 (Option.some.inj h)
    · refine r_aload_n (pc := 19) 0 dX9_keepUp_19 rfl rfl ?_
      refine r_getR (pc := 20) (i := 0) (j := 1) fdRX9_12 nLX_0 kLX_0 (by decide) rfl dX9_keepUp_20 ?_
      refine r_aload_n (pc := 23) 0 dX9_keepUp_23 rfl rfl ?_
      refine r_getR (pc := 24) (i := 0) (j := 15) fdRX9_62 nLX_0 kLX_0 (by decide) rfl dX9_keepUp_24 ?_
      refine r_iconst (pc := 27) dX9_keepUp_27 ci_5 ?_
      refine r_iald (pc := 28) (i := 15) (5) (by decide) nLX_15 kLX_15 lLX_15 (by decide) dX9_keepUp_28 ?_
      refine bo_k h (fun z1 hz1 h => ?_)
      refine r_callV (pc := 29) (i := 1) (As := [.int (σ 15 5)]) (rest := []) lkRX9_319 (ceX2_weakestBelow _ _ σ 1 (σ 15 5) nLX_1 kLX_1 hz1) nLX_1 kLX_1 (by decide) rfl ⟨Nat.le_of_ble_eq_true rfl, Nat.le_of_ble_eq_true rfl⟩ rfl rfl (Nat.le_of_ble_eq_true rfl) dX9_keepUp_29 rfl ?_
      refine r_istore_n (pc := 32) (lv' := [(2, .int z1), (0, .ref (xa E 0)), (1, .int v1)]) dX9_keepUp_32 rfl (Nat.le_of_ble_eq_true rfl) rfl ?_
      refine r_iload_n (pc := 33) 0 dX9_keepUp_33 rfl rfl ?_
      refine r_iconst (pc := 34) dX9_keepUp_34 ci_m1 ?_
      refine r_icmp_ne (pc := 35) 41 dX9_keepUp_35 (by decide) h (fun c2 h => ?_) (fun c2 h => ?_)
      · refine r_goto (pc := 38) 84 dX9_keepUp_38 (by decide) ?_
        exact r_vret (pc := 84) rfl dX9_keepUp_84 (Option.some.inj h)
      · refine r_aload_n (pc := 41) 1 dX9_keepUp_41 rfl rfl ?_
        refine r_getR (pc := 42) (i := 0) (j := 1) fdRX9_12 nLX_0 kLX_0 (by decide) rfl dX9_keepUp_42 ?_
        refine r_getR (pc := 45) (i := 1) (j := 3) fdRX9_85 nLX_1 kLX_1 (by decide) rfl dX9_keepUp_45 ?_
        refine r_iload_n (pc := 48) 0 dX9_keepUp_48 rfl rfl ?_
        refine inb_k h (fun b1 h => ?_)
        refine r_aald14 (pc := 49) (i := 3) (z1.toNatClampNeg) (rfX 3 z1.toNatClampNeg) rfl nLX_3 kLX_3 lLX_3 rfl b1 dX9_keepUp_49 ?_
        refine r_iconst (pc := 50) dX9_keepUp_50 ci_1 ?_
        refine r_putI (pc := 51) (i := rfX 3 z1.toNatClampNeg) fpRX9_322 (elLX_14 nLX_3 kLX_3 (inb_lt b1)).1 (elLX_14 nLX_3 kLX_3 (inb_lt b1)).2 (by decide) rfl rfl dX9_keepUp_51 ?_
        refine g_bm h (fun m1 em1 h => ?_)
        refine r_aload_n (pc := 54) 1 dX9_keepUp_54 rfl rfl ?_
        refine r_iload_n (pc := 55) 0 dX9_keepUp_55 rfl rfl ?_
        refine r_aload_n (pc := 56) 1 dX9_keepUp_56 rfl rfl ?_
        refine r_getR (pc := 57) (i := 0) (j := 1) fdRX9_12 nLX_0 kLX_0 (by decide) rfl dX9_keepUp_57 ?_
        refine r_getR (pc := 60) (i := 1) (j := 3) fdRX9_85 nLX_1 kLX_1 (by decide) rfl dX9_keepUp_60 ?_
        refine r_iload_n (pc := 63) 0 dX9_keepUp_63 rfl rfl ?_
        refine inb_k h (fun b2 h => ?_)
        refine r_aald14 (pc := 64) (i := 3) (z1.toNatClampNeg) (rfX 3 z1.toNatClampNeg) rfl nLX_3 kLX_3 lLX_3 rfl b2 dX9_keepUp_64 ?_
        refine r_aload_n (pc := 65) 1 dX9_keepUp_65 rfl rfl ?_
        refine r_getR (pc := 66) (i := 0) (j := 15) fdRX9_62 nLX_0 kLX_0 (by decide) rfl dX9_keepUp_66 ?_
        refine r_iconst (pc := 69) dX9_keepUp_69 ci_5 ?_
        refine r_iald (pc := 70) (i := 15) (5) (by decide) nLX_15 kLX_15 lLX_15 (by decide) dX9_keepUp_70 ?_
        refine bo_k h (fun z2 hz2 h => ?_)
        refine r_callV (pc := 71) (i := rfX 3 z1.toNatClampNeg) (As := [.int (m1 15 5)]) (rest := [.int z1, .ref (xa E 0)]) lkRX9_233 (ceX0_coinsUpTo _ _ m1 (rfX 3 z1.toNatClampNeg) (m1 15 5) (elLX_14 nLX_3 kLX_3 (inb_lt b2)).1 (elLX_14 nLX_3 kLX_3 (inb_lt b2)).2 hz2) (elLX_14 nLX_3 kLX_3 (inb_lt b2)).1 (elLX_14 nLX_3 kLX_3 (inb_lt b2)).2 (by decide) rfl ⟨Nat.le_of_ble_eq_true rfl, Nat.le_of_ble_eq_true rfl⟩ rfl rfl (Nat.le_of_ble_eq_true rfl) dX9_keepUp_71 rfl ?_
        refine bo_k h (fun z3 hz3 h => ?_)
        refine r_callV (pc := 74) (i := 0) (As := [.int z1, .int z2]) (rest := []) lkRX9_241 (ceX9_workFor _ _ m1 z1 z2 hz3) nLX_0 kLX_0 (by decide) rfl ⟨Nat.le_of_ble_eq_true rfl, Nat.le_of_ble_eq_true rfl⟩ rfl rfl (Nat.le_of_ble_eq_true rfl) dX9_keepUp_74 rfl ?_
        refine r_pop (pc := 77) dX9_keepUp_77 rfl ?_
        refine r_iinc (pc := 78) (v := v1 + 1) (lv' := [(1, .int (v1 + 1)), (2, .int z1), (0, .ref (xa E 0))]) 2 dX9_keepUp_78 rfl (by rw [ci_1]) (Nat.le_of_ble_eq_true rfl) rfl ?_
        refine r_goto (pc := 81) 9 dX9_keepUp_81 (by decide) ?_
        refine r_sub [2, 0] rfl ?_
        exact ih z3.2 (v1 + 1) h
def fX9_keepUp (σ : Mem)  : Option Mem :=
  bo (fX2_forgetChosen σ 1) (fun z1 =>
  fX9_keepUp_9 300 z1 0)
set_option maxHeartbeats 4000000 in
set_option maxRecDepth 20000 in
theorem gX9_keepUp (E : XE) {r : Mem} (σ : Mem)   (h : fX9_keepUp σ  = some r) : G E LX qX9_keepUp σ 0 [(0, .ref (xa E 0))] [] (none, r) := by
  unfold fX9_keepUp at h
  refine r_aload_n (pc := 0) 0 dX9_keepUp_0 rfl rfl ?_
  refine r_getR (pc := 1) (i := 0) (j := 1) fdRX9_12 nLX_0 kLX_0 (by decide) rfl dX9_keepUp_1 ?_
  refine bo_k h (fun z1 hz1 h => ?_)
  refine r_callV (pc := 4) (i := 1) (As := []) (rest := []) lkRX9_316 (ceX2_forgetChosen _ _ σ 1 nLX_1 kLX_1 hz1) nLX_1 kLX_1 (by decide) rfl ⟨Nat.le_of_ble_eq_true rfl, Nat.le_of_ble_eq_true rfl⟩ rfl rfl (Nat.le_of_ble_eq_true rfl) dX9_keepUp_4 rfl ?_
  refine r_iconst (pc := 7) dX9_keepUp_7 ci_0 ?_
  refine r_istore_n (pc := 8) (lv' := [(1, .int 0), (0, .ref (xa E 0))]) dX9_keepUp_8 rfl (Nat.le_of_ble_eq_true rfl) rfl ?_
  refine r_sub [1, 0] rfl ?_
  exact gX9_keepUp_9 E 300 z1 0 h
theorem ceX9_keepUp (l : Launch) (d : SD) (σ : Mem)   {r : Mem} (h : fX9_keepUp σ  = some r) : Me l d LX yX9_keepUp qX9_keepUp σ [.ref (d.2.2.1 0)] (none, r) := me_of (avs := fun d => [.ref (d.2.2.1 0)]) (by decide) rfl (Nat.le_of_ble_eq_true rfl) (fun E => gX9_keepUp E σ   h)
def fX9_years_27  : Nat → Mem → Int32 → Int32 → Option (Int32 × Mem)
  | 0, _, _, _ => none
  | n + 1, σ, v1, v2 =>
    if v1 ≤ v2 then
      (some (σ 0 9, σ))
    else
      (bm (mset σ 0 9 ((σ 0 9) + 1)) (fun m1 =>
      bo (fX9_lapsePurses m1) (fun z1 =>
      bo (fX9_bringGiftsOfYear z1) (fun z2 =>
      bo (fX9_bringTolls z2) (fun z3 =>
      bo (fX9_bringRents z3) (fun z4 =>
      bo (fX7_inYear z4 36 (z4 0 9)) (fun z5 =>
      bo (fX2_sufferYear z4 1 z5) (fun z6 =>
      bo (fX9_keepUp z6) (fun z7 =>
      fX9_years_27 n z7 v1 (v2 + 1))))))))))
set_option maxHeartbeats 4000000 in
set_option maxRecDepth 20000 in
theorem gX9_years_27 (E : XE)  {r : Int32 × Mem}  : ∀ (n : Nat) (σ : Mem) (v1 : Int32) (v2 : Int32), fX9_years_27 n σ v1 v2 = some r → G E LX qX9_years σ 27 [(0, .ref (xa E 0)), (1, .int v1), (2, .int v2)] [] (some r.1, r.2) := by
  intro n
  induction n with
  | zero => intro σ v1 v2 h; cases h
  | succ n ih =>
    intro σ v1 v2 h
    unfold fX9_years_27 at h
    refine r_iload_n (pc := 27) 2 dX9_years_27 rfl rfl ?_
    refine r_iload_n (pc := 28) 1 dX9_years_28 rfl rfl ?_
    refine r_icmp_ge (pc := 29) 88 dX9_years_29 (by decide) h (fun c1 h => ?_) (fun c1 h => ?_)
    · refine r_aload_n (pc := 88) 0 dX9_years_88 rfl rfl ?_
      refine r_getI (pc := 89) (i := 0) fdRX9_108 nLX_0 kLX_0 (by decide) dX9_years_89 ?_
      exact r_iretW (pc := 92) rfl dX9_years_92 h
    · refine r_aload_n (pc := 32) 0 dX9_years_32 rfl rfl ?_
      refine r_dup (pc := 33) dX9_years_33 rfl ?_
      refine r_getI (pc := 34) (i := 0) fdRX9_108 nLX_0 kLX_0 (by decide) dX9_years_34 ?_
      refine r_iconst (pc := 37) dX9_years_37 ci_1 ?_
      refine r_iadd (pc := 38) dX9_years_38 ?_
      refine r_putI (pc := 39) (i := 0) fpRX9_108 nLX_0 kLX_0 (by decide) rfl rfl dX9_years_39 ?_
      refine g_bm h (fun m1 em1 h => ?_)
      refine r_aload_n (pc := 42) 0 dX9_years_42 rfl rfl ?_
      refine bo_k h (fun z1 hz1 h => ?_)
      refine r_callV (pc := 43) (i := 0) (As := []) (rest := []) lkRX9_244 (ceX9_lapsePurses _ _ m1 hz1) nLX_0 kLX_0 (by decide) rfl ⟨Nat.le_of_ble_eq_true rfl, Nat.le_of_ble_eq_true rfl⟩ rfl rfl (Nat.le_of_ble_eq_true rfl) dX9_years_43 rfl ?_
      refine r_aload_n (pc := 46) 0 dX9_years_46 rfl rfl ?_
      refine bo_k h (fun z2 hz2 h => ?_)
      refine r_callV (pc := 47) (i := 0) (As := []) (rest := []) lkRX9_247 (ceX9_bringGiftsOfYear _ _ z1 hz2) nLX_0 kLX_0 (by decide) rfl ⟨Nat.le_of_ble_eq_true rfl, Nat.le_of_ble_eq_true rfl⟩ rfl rfl (Nat.le_of_ble_eq_true rfl) dX9_years_47 rfl ?_
      refine r_aload_n (pc := 50) 0 dX9_years_50 rfl rfl ?_
      refine bo_k h (fun z3 hz3 h => ?_)
      refine r_callV (pc := 51) (i := 0) (As := []) (rest := []) lkRX9_250 (ceX9_bringTolls _ _ z2 hz3) nLX_0 kLX_0 (by decide) rfl ⟨Nat.le_of_ble_eq_true rfl, Nat.le_of_ble_eq_true rfl⟩ rfl rfl (Nat.le_of_ble_eq_true rfl) dX9_years_51 rfl ?_
      refine r_aload_n (pc := 54) 0 dX9_years_54 rfl rfl ?_
      refine bo_k h (fun z4 hz4 h => ?_)
      refine r_callV (pc := 55) (i := 0) (As := []) (rest := []) lkRX9_253 (ceX9_bringRents _ _ z3 hz4) nLX_0 kLX_0 (by decide) rfl ⟨Nat.le_of_ble_eq_true rfl, Nat.le_of_ble_eq_true rfl⟩ rfl rfl (Nat.le_of_ble_eq_true rfl) dX9_years_55 rfl ?_
      refine r_aload_n (pc := 58) 0 dX9_years_58 rfl rfl ?_
      refine r_getR (pc := 59) (i := 0) (j := 1) fdRX9_12 nLX_0 kLX_0 (by decide) rfl dX9_years_59 ?_
      refine r_aload_n (pc := 62) 0 dX9_years_62 rfl rfl ?_
      refine r_getR (pc := 63) (i := 0) (j := 5) fdRX9_21 nLX_0 kLX_0 (by decide) rfl dX9_years_63 ?_
      refine r_iconst (pc := 66) dX9_years_66 ci_0 ?_
      refine r_aald16 (pc := 67) (i := 5) (0) (36) (by decide) nLX_5 kLX_5 lLX_5 rfl (by decide) dX9_years_67 ?_
      refine r_aload_n (pc := 68) 0 dX9_years_68 rfl rfl ?_
      refine r_getI (pc := 69) (i := 0) fdRX9_108 nLX_0 kLX_0 (by decide) dX9_years_69 ?_
      refine bo_k h (fun z5 hz5 h => ?_)
      refine r_callV (pc := 72) (i := 36) (As := [.int (z4 0 9)]) (rest := [.ref (xa E 1)]) lkRX9_111 (ceX7_inYear _ _ z4 36 (z4 0 9) nLX_36 kLX_36 hz5) nLX_36 kLX_36 (by decide) rfl ⟨Nat.le_of_ble_eq_true rfl, Nat.le_of_ble_eq_true rfl⟩ rfl rfl (Nat.le_of_ble_eq_true rfl) dX9_years_72 rfl ?_
      refine bo_k h (fun z6 hz6 h => ?_)
      refine r_callV (pc := 75) (i := 1) (As := [.int z5]) (rest := []) lkRX9_256 (ceX2_sufferYear _ _ z4 1 z5 nLX_1 kLX_1 hz6) nLX_1 kLX_1 (by decide) rfl ⟨Nat.le_of_ble_eq_true rfl, Nat.le_of_ble_eq_true rfl⟩ rfl rfl (Nat.le_of_ble_eq_true rfl) dX9_years_75 rfl ?_
      refine r_aload_n (pc := 78) 0 dX9_years_78 rfl rfl ?_
      refine bo_k h (fun z7 hz7 h => ?_)
      refine r_callV (pc := 79) (i := 0) (As := []) (rest := []) lkRX9_259 (ceX9_keepUp _ _ z6 hz7) nLX_0 kLX_0 (by decide) rfl ⟨Nat.le_of_ble_eq_true rfl, Nat.le_of_ble_eq_true rfl⟩ rfl rfl (Nat.le_of_ble_eq_true rfl) dX9_years_79 rfl ?_
      refine r_iinc (pc := 82) (v := v2 + 1) (lv' := [(2, .int (v2 + 1)), (0, .ref (xa E 0)), (1, .int v1)]) 2 dX9_years_82 rfl (by rw [ci_1]) (Nat.le_of_ble_eq_true rfl) rfl ?_
      refine r_goto (pc := 85) 27 dX9_years_85 (by decide) ?_
      refine r_sub [1, 2, 0] rfl ?_
      exact ih z7 v1 (v2 + 1) h
def fX9_years (σ : Mem) (v1 : Int32) : Option (Int32 × Mem) :=
  if fX9_isWithin σ v1 1 50 = 0 then
    (some ((-1000000001), σ))
  else
    (if (σ 0 9) + v1 ≤ 200 then
      (fX9_years_27 300 σ v1 0)
    else
      (some ((-1000000001), σ)))
set_option maxHeartbeats 4000000 in
set_option maxRecDepth 20000 in
theorem gX9_years (E : XE) {r : Int32 × Mem} (σ : Mem) (v1 : Int32)  (h : fX9_years σ v1 = some r) : G E LX qX9_years σ 0 [(0, .ref (xa E 0)), (1, .int v1)] [] (some r.1, r.2) := by
  unfold fX9_years at h
  refine r_iload_n (pc := 0) 1 dX9_years_0 rfl rfl ?_
  refine r_iconst (pc := 1) dX9_years_1 ci_1 ?_
  refine r_bipush (pc := 2) dX9_years_2 cb_50 ?_
  refine r_callS (pc := 4) (As := [.int v1, .int 1, .int 50]) (rest := []) lkRX9_67 (ceX9_isWithin _ _ σ v1 1 50 rfl) ⟨Nat.le_of_ble_eq_true rfl, Nat.le_of_ble_eq_true rfl⟩ rfl rfl (Nat.le_of_ble_eq_true rfl) dX9_years_4 rfl ?_
  refine r_if_eq (pc := 7) 22 dX9_years_7 (by decide) h (fun c1 h => ?_) (fun c1 h => ?_)
  · refine r_ldc (pc := 22) w_336 dX9_years_22 ?_
    exact r_iretW (pc := 24) rfl dX9_years_24 h
  · refine r_aload_n (pc := 10) 0 dX9_years_10 rfl rfl ?_
    refine r_getI (pc := 11) (i := 0) fdRX9_108 nLX_0 kLX_0 (by decide) dX9_years_11 ?_
    refine r_iload_n (pc := 14) 1 dX9_years_14 rfl rfl ?_
    refine r_iadd (pc := 15) dX9_years_15 ?_
    refine r_sipush (pc := 16) dX9_years_16 cs_200 ?_
    refine r_icmp_le (pc := 19) 25 dX9_years_19 (by decide) h (fun c2 h => ?_) (fun c2 h => ?_)
    · refine r_iconst (pc := 25) dX9_years_25 ci_0 ?_
      refine r_istore_n (pc := 26) (lv' := [(2, .int 0), (0, .ref (xa E 0)), (1, .int v1)]) dX9_years_26 rfl (Nat.le_of_ble_eq_true rfl) rfl ?_
      refine r_sub [1, 2, 0] rfl ?_
      exact gX9_years_27 E 300 σ v1 0 h
    · refine r_ldc (pc := 22) w_336 dX9_years_22 ?_
      exact r_iretW (pc := 24) rfl dX9_years_24 h
theorem ceX9_years (l : Launch) (d : SD) (σ : Mem) (v1 : Int32)  {r : Int32 × Mem} (h : fX9_years σ v1 = some r) : Me l d LX yX9_years qX9_years σ [.ref (d.2.2.1 0), .int v1] (some r.1, r.2) := me_of (avs := fun d => [.ref (d.2.2.1 0), .int v1]) (by decide) rfl (Nat.le_of_ble_eq_true rfl) (fun E => gX9_years E σ v1  h)
def fX9_row (σ : Mem) (v1 : Int32) (v2 : Int32) : Option Int32 :=
  if v1 < 0 then
    (some ((-1000000001)))
  else
    (if fX9_isWithin σ v2 0 3 = 0 then
      (some ((-1000000001)))
    else
      (if v1 < σ 11 2 then
        (bo (fX1_read σ v1 v2) (fun z1 =>
        some (z1)))
      else
        (some ((-1000000005)))))
set_option maxHeartbeats 4000000 in
set_option maxRecDepth 20000 in
theorem gX9_row (E : XE) {r : Int32} (σ : Mem) (v1 : Int32) (v2 : Int32)  (h : fX9_row σ v1 v2 = some r) : G E LX qX9_row σ 0 [(0, .ref (xa E 0)), (1, .int v1), (2, .int v2)] [] (some r, σ) := by
  unfold fX9_row at h
  refine r_iload_n (pc := 0) 1 dX9_row_0 rfl rfl ?_
  refine r_if_lt (pc := 1) 13 dX9_row_1 (by decide) h (fun c1 h => ?_) (fun c1 h => ?_)
  · refine r_ldc (pc := 13) w_336 dX9_row_13 ?_
    exact r_iret (pc := 15) rfl dX9_row_15 (Option.some.inj h) rfl
  · refine r_iload_n (pc := 4) 2 dX9_row_4 rfl rfl ?_
    refine r_iconst (pc := 5) dX9_row_5 ci_0 ?_
    refine r_iconst (pc := 6) dX9_row_6 ci_3 ?_
    refine r_callS (pc := 7) (As := [.int v2, .int 0, .int 3]) (rest := []) lkRX9_67 (ceX9_isWithin _ _ σ v2 0 3 rfl) ⟨Nat.le_of_ble_eq_true rfl, Nat.le_of_ble_eq_true rfl⟩ rfl rfl (Nat.le_of_ble_eq_true rfl) dX9_row_7 rfl ?_
    refine r_if_ne (pc := 10) 16 dX9_row_10 (by decide) h (fun c2 h => ?_) (fun c2 h => ?_)
    · refine r_ldc (pc := 13) w_336 dX9_row_13 ?_
      exact r_iret (pc := 15) rfl dX9_row_15 (Option.some.inj h) rfl
    · refine r_iload_n (pc := 16) 1 dX9_row_16 rfl rfl ?_
      refine r_aload_n (pc := 17) 0 dX9_row_17 rfl rfl ?_
      refine r_getR (pc := 18) (i := 0) (j := 11) fdRX9_51 nLX_0 kLX_0 (by decide) rfl dX9_row_18 ?_
      refine r_getI (pc := 21) (i := 11) fdRX9_262 nLX_11 kLX_11 (by decide) dX9_row_21 ?_
      refine r_icmp_lt (pc := 24) 33 dX9_row_24 (by decide) h (fun c3 h => ?_) (fun c3 h => ?_)
      · refine r_aload_n (pc := 33) 0 dX9_row_33 rfl rfl ?_
        refine r_getR (pc := 34) (i := 0) (j := 11) fdRX9_51 nLX_0 kLX_0 (by decide) rfl dX9_row_34 ?_
        refine r_iload_n (pc := 37) 1 dX9_row_37 rfl rfl ?_
        refine r_iload_n (pc := 38) 2 dX9_row_38 rfl rfl ?_
        refine bo_k h (fun z1 hz1 h => ?_)
        refine r_callV (pc := 39) (i := 11) (As := [.int v1, .int v2]) (rest := []) lkRX9_264 (ceX1_read _ _ σ v1 v2 hz1) nLX_11 kLX_11 (by decide) rfl ⟨Nat.le_of_ble_eq_true rfl, Nat.le_of_ble_eq_true rfl⟩ rfl rfl (Nat.le_of_ble_eq_true rfl) dX9_row_39 rfl ?_
        exact r_iret (pc := 42) rfl dX9_row_42 (Option.some.inj h) rfl
      · refine r_ldcw (pc := 27) w_391 dX9_row_27 ?_
        refine r_goto (pc := 30) 42 dX9_row_30 (by decide) ?_
        exact r_iret (pc := 42) rfl dX9_row_42 (Option.some.inj h) rfl
theorem ceX9_row (l : Launch) (d : SD) (σ : Mem) (v1 : Int32) (v2 : Int32)  {r : Int32} (h : fX9_row σ v1 v2 = some r) : Me l d LX yX9_row qX9_row σ [.ref (d.2.2.1 0), .int v1, .int v2] (some r, σ) := me_of (avs := fun d => [.ref (d.2.2.1 0), .int v1, .int v2]) (by decide) rfl (Nat.le_of_ble_eq_true rfl) (fun E => gX9_row E σ v1 v2  h)
def fX9_roll (σ : Mem) (v1 : Int32) (v2 : Int32) : Option Int32 :=
  if fX9_isWithin σ v1 0 200 = 0 then
    (some ((-1000000001)))
  else
    (if fX9_isWithin σ v2 0 6 = 0 then
      (some ((-1000000001)))
    else
      (bo (fX6_read σ v1 v2) (fun z1 =>
      some (z1))))
set_option maxHeartbeats 4000000 in
set_option maxRecDepth 20000 in
theorem gX9_roll (E : XE) {r : Int32} (σ : Mem) (v1 : Int32) (v2 : Int32)  (h : fX9_roll σ v1 v2 = some r) : G E LX qX9_roll σ 0 [(0, .ref (xa E 0)), (1, .int v1), (2, .int v2)] [] (some r, σ) := by
  unfold fX9_roll at h
  refine r_iload_n (pc := 0) 1 dX9_roll_0 rfl rfl ?_
  refine r_iconst (pc := 1) dX9_roll_1 ci_0 ?_
  refine r_sipush (pc := 2) dX9_roll_2 cs_200 ?_
  refine r_callS (pc := 5) (As := [.int v1, .int 0, .int 200]) (rest := []) lkRX9_67 (ceX9_isWithin _ _ σ v1 0 200 rfl) ⟨Nat.le_of_ble_eq_true rfl, Nat.le_of_ble_eq_true rfl⟩ rfl rfl (Nat.le_of_ble_eq_true rfl) dX9_roll_5 rfl ?_
  refine r_if_eq (pc := 8) 21 dX9_roll_8 (by decide) h (fun c1 h => ?_) (fun c1 h => ?_)
  · refine r_ldc (pc := 21) w_336 dX9_roll_21 ?_
    exact r_iret (pc := 23) rfl dX9_roll_23 (Option.some.inj h) rfl
  · refine r_iload_n (pc := 11) 2 dX9_roll_11 rfl rfl ?_
    refine r_iconst (pc := 12) dX9_roll_12 ci_0 ?_
    refine r_bipush (pc := 13) dX9_roll_13 cb_6 ?_
    refine r_callS (pc := 15) (As := [.int v2, .int 0, .int 6]) (rest := []) lkRX9_67 (ceX9_isWithin _ _ σ v2 0 6 rfl) ⟨Nat.le_of_ble_eq_true rfl, Nat.le_of_ble_eq_true rfl⟩ rfl rfl (Nat.le_of_ble_eq_true rfl) dX9_roll_15 rfl ?_
    refine r_if_ne (pc := 18) 24 dX9_roll_18 (by decide) h (fun c2 h => ?_) (fun c2 h => ?_)
    · refine r_ldc (pc := 21) w_336 dX9_roll_21 ?_
      exact r_iret (pc := 23) rfl dX9_roll_23 (Option.some.inj h) rfl
    · refine r_aload_n (pc := 24) 0 dX9_roll_24 rfl rfl ?_
      refine r_getR (pc := 25) (i := 0) (j := 13) fdRX9_58 nLX_0 kLX_0 (by decide) rfl dX9_roll_25 ?_
      refine r_iload_n (pc := 28) 1 dX9_roll_28 rfl rfl ?_
      refine r_iload_n (pc := 29) 2 dX9_roll_29 rfl rfl ?_
      refine bo_k h (fun z1 hz1 h => ?_)
      refine r_callV (pc := 30) (i := 13) (As := [.int v1, .int v2]) (rest := []) lkRX9_267 (ceX6_read _ _ σ v1 v2 hz1) nLX_13 kLX_13 (by decide) rfl ⟨Nat.le_of_ble_eq_true rfl, Nat.le_of_ble_eq_true rfl⟩ rfl rfl (Nat.le_of_ble_eq_true rfl) dX9_roll_30 rfl ?_
      exact r_iret (pc := 33) rfl dX9_roll_33 (Option.some.inj h) rfl
theorem ceX9_roll (l : Launch) (d : SD) (σ : Mem) (v1 : Int32) (v2 : Int32)  {r : Int32} (h : fX9_roll σ v1 v2 = some r) : Me l d LX yX9_roll qX9_roll σ [.ref (d.2.2.1 0), .int v1, .int v2] (some r, σ) := me_of (avs := fun d => [.ref (d.2.2.1 0), .int v1, .int v2]) (by decide) rfl (Nat.le_of_ble_eq_true rfl) (fun E => gX9_roll E σ v1 v2  h)
def fX9_sum (σ : Mem)  : Option Int32 :=
  bo (fX3_allCoins σ) (fun z1 =>
  some (z1))
set_option maxHeartbeats 4000000 in
set_option maxRecDepth 20000 in
theorem gX9_sum (E : XE) {r : Int32} (σ : Mem)   (h : fX9_sum σ  = some r) : G E LX qX9_sum σ 0 [(0, .ref (xa E 0))] [] (some r, σ) := by
  unfold fX9_sum at h
  refine r_aload_n (pc := 0) 0 dX9_sum_0 rfl rfl ?_
  refine r_getR (pc := 1) (i := 0) (j := 9) fdRX9_44 nLX_0 kLX_0 (by decide) rfl dX9_sum_1 ?_
  refine bo_k h (fun z1 hz1 h => ?_)
  refine r_callV (pc := 4) (i := 9) (As := []) (rest := []) lkRX9_268 (ceX3_allCoins _ _ σ hz1) nLX_9 kLX_9 (by decide) rfl ⟨Nat.le_of_ble_eq_true rfl, Nat.le_of_ble_eq_true rfl⟩ rfl rfl (Nat.le_of_ble_eq_true rfl) dX9_sum_4 rfl ?_
  exact r_iret (pc := 7) rfl dX9_sum_7 (Option.some.inj h) rfl
theorem ceX9_sum (l : Launch) (d : SD) (σ : Mem)   {r : Int32} (h : fX9_sum σ  = some r) : Me l d LX yX9_sum qX9_sum σ [.ref (d.2.2.1 0)] (some r, σ) := me_of (avs := fun d => [.ref (d.2.2.1 0)]) (by decide) rfl (Nat.le_of_ble_eq_true rfl) (fun E => gX9_sum E σ   h)
def fX9_spent (σ : Mem) (v1 : Int32) (v2 : Int32) : Option Int32 :=
  if fX3_has σ v1 = 0 then
    (some ((-1000000001)))
  else
    (if fX9_isEnd σ v2 = 0 then
      (some ((-1000000001)))
    else
      (if inb v1 20 = true then
      (if inb v2 12 = true then
      (some (σ (rfX (rfX 10 v1.toNatClampNeg) 0) v2.toNatClampNeg))
      else none)
      else none))
set_option maxHeartbeats 4000000 in
set_option maxRecDepth 20000 in
theorem gX9_spent (E : XE) {r : Int32} (σ : Mem) (v1 : Int32) (v2 : Int32)  (h : fX9_spent σ v1 v2 = some r) : G E LX qX9_spent σ 0 [(0, .ref (xa E 0)), (1, .int v1), (2, .int v2)] [] (some r, σ) := by
  unfold fX9_spent at h
  refine r_aload_n (pc := 0) 0 dX9_spent_0 rfl rfl ?_
  refine r_getR (pc := 1) (i := 0) (j := 9) fdRX9_44 nLX_0 kLX_0 (by decide) rfl dX9_spent_1 ?_
  refine r_iload_n (pc := 4) 1 dX9_spent_4 rfl rfl ?_
  refine r_callV (pc := 5) (i := 9) (As := [.int v1]) (rest := []) lkRX9_195 (ceX3_has _ _ σ v1 rfl) nLX_9 kLX_9 (by decide) rfl ⟨Nat.le_of_ble_eq_true rfl, Nat.le_of_ble_eq_true rfl⟩ rfl rfl (Nat.le_of_ble_eq_true rfl) dX9_spent_5 rfl ?_
  refine r_if_eq (pc := 8) 36 dX9_spent_8 (by decide) h (fun c1 h => ?_) (fun c1 h => ?_)
  · refine r_ldc (pc := 36) w_336 dX9_spent_36 ?_
    exact r_iret (pc := 38) rfl dX9_spent_38 (Option.some.inj h) rfl
  · refine r_aload_n (pc := 11) 0 dX9_spent_11 rfl rfl ?_
    refine r_iload_n (pc := 12) 2 dX9_spent_12 rfl rfl ?_
    refine r_callV (pc := 13) (i := 0) (As := [.int v2]) (rest := []) lkRX9_220 (ceX9_isEnd _ _ σ v2 rfl) nLX_0 kLX_0 (by decide) rfl ⟨Nat.le_of_ble_eq_true rfl, Nat.le_of_ble_eq_true rfl⟩ rfl rfl (Nat.le_of_ble_eq_true rfl) dX9_spent_13 rfl ?_
    refine r_if_eq (pc := 16) 36 dX9_spent_16 (by decide) h (fun c2 h => ?_) (fun c2 h => ?_)
    · refine r_ldc (pc := 36) w_336 dX9_spent_36 ?_
      exact r_iret (pc := 38) rfl dX9_spent_38 (Option.some.inj h) rfl
    · refine r_aload_n (pc := 19) 0 dX9_spent_19 rfl rfl ?_
      refine r_getR (pc := 20) (i := 0) (j := 9) fdRX9_44 nLX_0 kLX_0 (by decide) rfl dX9_spent_20 ?_
      refine r_getR (pc := 23) (i := 9) (j := 10) fdRX9_187 nLX_9 kLX_9 (by decide) rfl dX9_spent_23 ?_
      refine r_iload_n (pc := 26) 1 dX9_spent_26 rfl rfl ?_
      refine inb_k h (fun b1 h => ?_)
      refine r_aald15 (pc := 27) (i := 10) (v1.toNatClampNeg) (rfX 10 v1.toNatClampNeg) rfl nLX_10 kLX_10 lLX_10 rfl b1 dX9_spent_27 ?_
      refine r_getR (pc := 28) (i := rfX 10 v1.toNatClampNeg) (j := rfX (rfX 10 v1.toNatClampNeg) 0) fdRX9_271 (elLX_15 nLX_10 kLX_10 (inb_lt b1)).1 (elLX_15 nLX_10 kLX_10 (inb_lt b1)).2 (by decide) rfl dX9_spent_28 ?_
      refine r_iload_n (pc := 31) 2 dX9_spent_31 rfl rfl ?_
      refine inb_k h (fun b2 h => ?_)
      refine r_iald (pc := 32) (i := rfX (rfX 10 v1.toNatClampNeg) 0) (v2.toNatClampNeg) rfl (rlLX_5_0 (elLX_15 nLX_10 kLX_10 (inb_lt b1)).1 (elLX_15 nLX_10 kLX_10 (inb_lt b1)).2).1 (rlLX_5_0 (elLX_15 nLX_10 kLX_10 (inb_lt b1)).1 (elLX_15 nLX_10 kLX_10 (inb_lt b1)).2).2.1 (rlLX_5_0 (elLX_15 nLX_10 kLX_10 (inb_lt b1)).1 (elLX_15 nLX_10 kLX_10 (inb_lt b1)).2).2.2 b2 dX9_spent_32 ?_
      refine r_goto (pc := 33) 38 dX9_spent_33 (by decide) ?_
      exact r_iret (pc := 38) rfl dX9_spent_38 (Option.some.inj h) rfl
theorem ceX9_spent (l : Launch) (d : SD) (σ : Mem) (v1 : Int32) (v2 : Int32)  {r : Int32} (h : fX9_spent σ v1 v2 = some r) : Me l d LX yX9_spent qX9_spent σ [.ref (d.2.2.1 0), .int v1, .int v2] (some r, σ) := me_of (avs := fun d => [.ref (d.2.2.1 0), .int v1, .int v2]) (by decide) rfl (Nat.le_of_ble_eq_true rfl) (fun E => gX9_spent E σ v1 v2  h)
def fX9_sheetsThere_4  : Nat → Mem → Int32 → Int32 → Option Int32
  | 0, _, _, _ => none
  | n + 1, σ, v1, v2 =>
    if 4 ≤ v2 then
      (some (v1))
    else
      (if inb v2 4 = true then
      (if σ (rfX 5 v2.toNatClampNeg) 1 = 0 then
        (bi (v1 + 1) (fun x1 =>
        fX9_sheetsThere_4 n σ x1 (v2 + 1)))
      else
        (bi (v1 + 0) (fun x2 =>
        fX9_sheetsThere_4 n σ x2 (v2 + 1))))
      else none)
set_option maxHeartbeats 4000000 in
set_option maxRecDepth 20000 in
theorem gX9_sheetsThere_4 (E : XE)  {r : Int32}  (n : Nat) (σ : Mem) : ∀ (v1 : Int32) (v2 : Int32), fX9_sheetsThere_4 n σ v1 v2 = some r → G E LX qX9_sheetsThere σ 4 [(0, .ref (xa E 0)), (1, .int v1), (2, .int v2)] [] (some r, σ) := by
  induction n with
  | zero => intro v1 v2 h; cases h
  | succ n ih =>
    intro v1 v2 h
    unfold fX9_sheetsThere_4 at h
    refine r_iload_n (pc := 4) 2 dX9_sheetsThere_4 rfl rfl ?_
    refine r_iconst (pc := 5) dX9_sheetsThere_5 ci_4 ?_
    refine r_icmp_ge (pc := 6) 35 dX9_sheetsThere_6 (by decide) h (fun c1 h => ?_) (fun c1 h => ?_)
    · refine r_iload_n (pc := 35) 1 dX9_sheetsThere_35 rfl rfl ?_
      exact r_iret (pc := 36) rfl dX9_sheetsThere_36 (Option.some.inj h) rfl
    · refine r_iload_n (pc := 9) 1 dX9_sheetsThere_9 rfl rfl ?_
      refine r_aload_n (pc := 10) 0 dX9_sheetsThere_10 rfl rfl ?_
      refine r_getR (pc := 11) (i := 0) (j := 5) fdRX9_21 nLX_0 kLX_0 (by decide) rfl dX9_sheetsThere_11 ?_
      refine r_iload_n (pc := 14) 2 dX9_sheetsThere_14 rfl rfl ?_
      refine inb_k h (fun b1 h => ?_)
      refine r_aald16 (pc := 15) (i := 5) (v2.toNatClampNeg) (rfX 5 v2.toNatClampNeg) rfl nLX_5 kLX_5 lLX_5 rfl b1 dX9_sheetsThere_15 ?_
      refine r_getI (pc := 16) (i := rfX 5 v2.toNatClampNeg) fdRX9_139 (elLX_16 nLX_5 kLX_5 (inb_lt b1)).1 (elLX_16 nLX_5 kLX_5 (inb_lt b1)).2 (by decide) dX9_sheetsThere_16 ?_
      refine r_if_eq (pc := 19) 26 dX9_sheetsThere_19 (by decide) h (fun c2 h => ?_) (fun c2 h => ?_)
      · refine r_iconst (pc := 26) dX9_sheetsThere_26 ci_1 ?_
        refine r_iadd (pc := 27) dX9_sheetsThere_27 ?_
        refine g_bi h (fun x1 ex1 h => ?_)
        refine r_istore_n (pc := 28) (lv' := [(1, .int x1), (0, .ref (xa E 0)), (2, .int v2)]) dX9_sheetsThere_28 rfl (Nat.le_of_ble_eq_true rfl) rfl ?_
        refine r_iinc (pc := 29) (v := v2 + 1) (lv' := [(2, .int (v2 + 1)), (1, .int x1), (0, .ref (xa E 0))]) 2 dX9_sheetsThere_29 rfl (by rw [ci_1]) (Nat.le_of_ble_eq_true rfl) rfl ?_
        refine r_goto (pc := 32) 4 dX9_sheetsThere_32 (by decide) ?_
        refine r_sub [2, 1, 0] rfl ?_
        exact ih x1 (v2 + 1) h
      · refine r_iconst (pc := 22) dX9_sheetsThere_22 ci_0 ?_
        refine r_goto (pc := 23) 27 dX9_sheetsThere_23 (by decide) ?_
        refine r_iadd (pc := 27) dX9_sheetsThere_27 ?_
        refine g_bi h (fun x2 ex2 h => ?_)
        refine r_istore_n (pc := 28) (lv' := [(1, .int x2), (0, .ref (xa E 0)), (2, .int v2)]) dX9_sheetsThere_28 rfl (Nat.le_of_ble_eq_true rfl) rfl ?_
        refine r_iinc (pc := 29) (v := v2 + 1) (lv' := [(2, .int (v2 + 1)), (1, .int x2), (0, .ref (xa E 0))]) 2 dX9_sheetsThere_29 rfl (by rw [ci_1]) (Nat.le_of_ble_eq_true rfl) rfl ?_
        refine r_goto (pc := 32) 4 dX9_sheetsThere_32 (by decide) ?_
        refine r_sub [2, 1, 0] rfl ?_
        exact ih x2 (v2 + 1) h
def fX9_sheetsThere (σ : Mem)  : Option Int32 :=
  fX9_sheetsThere_4 300 σ 0 0
set_option maxHeartbeats 4000000 in
set_option maxRecDepth 20000 in
theorem gX9_sheetsThere (E : XE) {r : Int32} (σ : Mem)   (h : fX9_sheetsThere σ  = some r) : G E LX qX9_sheetsThere σ 0 [(0, .ref (xa E 0))] [] (some r, σ) := by
  unfold fX9_sheetsThere at h
  refine r_iconst (pc := 0) dX9_sheetsThere_0 ci_0 ?_
  refine r_istore_n (pc := 1) (lv' := [(1, .int 0), (0, .ref (xa E 0))]) dX9_sheetsThere_1 rfl (Nat.le_of_ble_eq_true rfl) rfl ?_
  refine r_iconst (pc := 2) dX9_sheetsThere_2 ci_0 ?_
  refine r_istore_n (pc := 3) (lv' := [(2, .int 0), (1, .int 0), (0, .ref (xa E 0))]) dX9_sheetsThere_3 rfl (Nat.le_of_ble_eq_true rfl) rfl ?_
  refine r_sub [2, 1, 0] rfl ?_
  exact gX9_sheetsThere_4 E 300 σ 0 0 h
theorem ceX9_sheetsThere (l : Launch) (d : SD) (σ : Mem)   {r : Int32} (h : fX9_sheetsThere σ  = some r) : Me l d LX yX9_sheetsThere qX9_sheetsThere σ [.ref (d.2.2.1 0)] (some r, σ) := me_of (avs := fun d => [.ref (d.2.2.1 0)]) (by decide) rfl (Nat.le_of_ble_eq_true rfl) (fun E => gX9_sheetsThere E σ   h)
def fX9_count (σ : Mem) (v1 : Int32) : Option Int32 :=
  if v1 = 0 then
    (some (σ 1 1))
  else
    if v1 = 1 then
    (bo (fX2_fallen σ 1) (fun z1 =>
    some (z1)))
  else
    if v1 = 2 then
    (some (σ 9 1))
  else
    if v1 = 3 then
    (some (σ 11 2))
  else
    if v1 = 4 then
    (some (σ 0 9))
  else
    if v1 = 5 then
    (some (σ 6 1))
  else
    if v1 = 6 then
    (bo (fX2_houses σ 1) (fun z2 =>
    some (z2)))
  else
    if v1 = 7 then
    (bo (fX9_sheetsThere σ) (fun z3 =>
    some (z3)))
  else
    (some ((-1000000001)))
set_option maxHeartbeats 4000000 in
set_option maxRecDepth 20000 in
theorem gX9_count (E : XE) {r : Int32} (σ : Mem) (v1 : Int32)  (h : fX9_count σ v1 = some r) : G E LX qX9_count σ 0 [(0, .ref (xa E 0)), (1, .int v1)] [] (some r, σ) := by
  unfold fX9_count at h
  refine r_iload_n (pc := 0) 1 dX9_count_0 rfl rfl ?_
  refine ite_k h (fun c1 h => ?_) (fun c1 h => ?_)
  · refine r_tabIn (pc := 1) (off := 47) 48 c1 dX9_count_1 (by decide) (by decide) (by decide) (by decide) ?_
    refine r_aload_n (pc := 48) 0 dX9_count_48 rfl rfl ?_
    refine r_getR (pc := 49) (i := 0) (j := 1) fdRX9_12 nLX_0 kLX_0 (by decide) rfl dX9_count_49 ?_
    refine r_getI (pc := 52) (i := 1) fdRX9_72 nLX_1 kLX_1 (by decide) dX9_count_52 ?_
    exact r_iret (pc := 55) rfl dX9_count_55 (Option.some.inj h) rfl
  refine ite_k h (fun c2 h => ?_) (fun c2 h => ?_)
  · refine r_tabIn (pc := 1) (off := 55) 56 c2 dX9_count_1 (by decide) (by decide) (by decide) (by decide) ?_
    refine r_aload_n (pc := 56) 0 dX9_count_56 rfl rfl ?_
    refine r_getR (pc := 57) (i := 0) (j := 1) fdRX9_12 nLX_0 kLX_0 (by decide) rfl dX9_count_57 ?_
    refine bo_k h (fun z1 hz1 h => ?_)
    refine r_callV (pc := 60) (i := 1) (As := []) (rest := []) lkRX9_273 (ceX2_fallen _ _ σ 1 nLX_1 kLX_1 hz1) nLX_1 kLX_1 (by decide) rfl ⟨Nat.le_of_ble_eq_true rfl, Nat.le_of_ble_eq_true rfl⟩ rfl rfl (Nat.le_of_ble_eq_true rfl) dX9_count_60 rfl ?_
    exact r_iret (pc := 63) rfl dX9_count_63 (Option.some.inj h) rfl
  refine ite_k h (fun c3 h => ?_) (fun c3 h => ?_)
  · refine r_tabIn (pc := 1) (off := 63) 64 c3 dX9_count_1 (by decide) (by decide) (by decide) (by decide) ?_
    refine r_aload_n (pc := 64) 0 dX9_count_64 rfl rfl ?_
    refine r_getR (pc := 65) (i := 0) (j := 9) fdRX9_44 nLX_0 kLX_0 (by decide) rfl dX9_count_65 ?_
    refine r_getI (pc := 68) (i := 9) fdRX9_179 nLX_9 kLX_9 (by decide) dX9_count_68 ?_
    exact r_iret (pc := 71) rfl dX9_count_71 (Option.some.inj h) rfl
  refine ite_k h (fun c4 h => ?_) (fun c4 h => ?_)
  · refine r_tabIn (pc := 1) (off := 71) 72 c4 dX9_count_1 (by decide) (by decide) (by decide) (by decide) ?_
    refine r_aload_n (pc := 72) 0 dX9_count_72 rfl rfl ?_
    refine r_getR (pc := 73) (i := 0) (j := 11) fdRX9_51 nLX_0 kLX_0 (by decide) rfl dX9_count_73 ?_
    refine r_getI (pc := 76) (i := 11) fdRX9_262 nLX_11 kLX_11 (by decide) dX9_count_76 ?_
    exact r_iret (pc := 79) rfl dX9_count_79 (Option.some.inj h) rfl
  refine ite_k h (fun c5 h => ?_) (fun c5 h => ?_)
  · refine r_tabIn (pc := 1) (off := 79) 80 c5 dX9_count_1 (by decide) (by decide) (by decide) (by decide) ?_
    refine r_aload_n (pc := 80) 0 dX9_count_80 rfl rfl ?_
    refine r_getI (pc := 81) (i := 0) fdRX9_108 nLX_0 kLX_0 (by decide) dX9_count_81 ?_
    exact r_iret (pc := 84) rfl dX9_count_84 (Option.some.inj h) rfl
  refine ite_k h (fun c6 h => ?_) (fun c6 h => ?_)
  · refine r_tabIn (pc := 1) (off := 84) 85 c6 dX9_count_1 (by decide) (by decide) (by decide) (by decide) ?_
    refine r_aload_n (pc := 85) 0 dX9_count_85 rfl rfl ?_
    refine r_getR (pc := 86) (i := 0) (j := 6) fdRX9_28 nLX_0 kLX_0 (by decide) rfl dX9_count_86 ?_
    refine r_getI (pc := 89) (i := 6) fdRX9_168 nLX_6 kLX_6 (by decide) dX9_count_89 ?_
    exact r_iret (pc := 92) rfl dX9_count_92 (Option.some.inj h) rfl
  refine ite_k h (fun c7 h => ?_) (fun c7 h => ?_)
  · refine r_tabIn (pc := 1) (off := 92) 93 c7 dX9_count_1 (by decide) (by decide) (by decide) (by decide) ?_
    refine r_aload_n (pc := 93) 0 dX9_count_93 rfl rfl ?_
    refine r_getR (pc := 94) (i := 0) (j := 1) fdRX9_12 nLX_0 kLX_0 (by decide) rfl dX9_count_94 ?_
    refine bo_k h (fun z2 hz2 h => ?_)
    refine r_callV (pc := 97) (i := 1) (As := []) (rest := []) lkRX9_276 (ceX2_houses _ _ σ 1 nLX_1 kLX_1 hz2) nLX_1 kLX_1 (by decide) rfl ⟨Nat.le_of_ble_eq_true rfl, Nat.le_of_ble_eq_true rfl⟩ rfl rfl (Nat.le_of_ble_eq_true rfl) dX9_count_97 rfl ?_
    exact r_iret (pc := 100) rfl dX9_count_100 (Option.some.inj h) rfl
  refine ite_k h (fun c8 h => ?_) (fun c8 h => ?_)
  · refine r_tabIn (pc := 1) (off := 100) 101 c8 dX9_count_1 (by decide) (by decide) (by decide) (by decide) ?_
    refine r_aload_n (pc := 101) 0 dX9_count_101 rfl rfl ?_
    refine bo_k h (fun z3 hz3 h => ?_)
    refine r_callV (pc := 102) (i := 0) (As := []) (rest := []) lkRX9_278 (ceX9_sheetsThere _ _ σ hz3) nLX_0 kLX_0 (by decide) rfl ⟨Nat.le_of_ble_eq_true rfl, Nat.le_of_ble_eq_true rfl⟩ rfl rfl (Nat.le_of_ble_eq_true rfl) dX9_count_102 rfl ?_
    exact r_iret (pc := 105) rfl dX9_count_105 (Option.some.inj h) rfl
  refine r_tabOut (pc := 1) 106 dX9_count_1 (by have ec1 := ti_ne (z := 0) c1 (by decide); have ec2 := ti_ne (z := 1) c2 (by decide); have ec3 := ti_ne (z := 2) c3 (by decide); have ec4 := ti_ne (z := 3) c4 (by decide); have ec5 := ti_ne (z := 4) c5 (by decide); have ec6 := ti_ne (z := 5) c6 (by decide); have ec7 := ti_ne (z := 6) c7 (by decide); have ec8 := ti_ne (z := 7) c8 (by decide); omega) (by decide) ?_
  refine r_ldc (pc := 106) w_336 dX9_count_106 ?_
  exact r_iret (pc := 108) rfl dX9_count_108 (Option.some.inj h) rfl
theorem ceX9_count (l : Launch) (d : SD) (σ : Mem) (v1 : Int32)  {r : Int32} (h : fX9_count σ v1 = some r) : Me l d LX yX9_count qX9_count σ [.ref (d.2.2.1 0), .int v1] (some r, σ) := me_of (avs := fun d => [.ref (d.2.2.1 0), .int v1]) (by decide) rfl (Nat.le_of_ble_eq_true rfl) (fun E => gX9_count E σ v1  h)
