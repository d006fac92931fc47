def fX0_isFallen (σ : Mem) (v0 : Nat) : Int32 :=
  if σ v0 1 = 0 then
    (1)
  else
    (0)
set_option maxHeartbeats 4000000 in
set_option maxRecDepth 20000 in
theorem gX0_isFallen (E : XE) {r : Int32} (σ : Mem) (v0 : Nat) (n_v0 : v0 < LX.1) (k_v0 : LX.2.1 v0 = 0) (h : fX0_isFallen σ v0 = r) : G E LX qX0_isFallen σ 0 [(0, .ref (xa E v0))] [] (some r, σ) := by
  unfold fX0_isFallen at h
  refine r_aload_n (pc := 0) 0 dX0_isFallen_0 rfl rfl ?_
  refine r_getI (pc := 1) (i := v0) fdRX0_9 n_v0 k_v0 (by decide) dX0_isFallen_1 ?_
  refine r_if_ne (pc := 4) 11 dX0_isFallen_4 (by decide) h (fun c1 h => ?_) (fun c1 h => ?_)
  · refine r_iconst (pc := 7) dX0_isFallen_7 ci_1 ?_
    refine r_goto (pc := 8) 12 dX0_isFallen_8 (by decide) ?_
    exact r_zret (pc := 12) rfl rfl dX0_isFallen_12 h rfl
  · refine r_iconst (pc := 11) dX0_isFallen_11 ci_0 ?_
    exact r_zret (pc := 12) rfl rfl dX0_isFallen_12 h rfl
theorem ceX0_isFallen (l : Launch) (d : SD) (σ : Mem) (v0 : Nat) (n_v0 : v0 < LX.1) (k_v0 : LX.2.1 v0 = 0) {r : Int32} (h : fX0_isFallen σ v0 = r) : Me l d LX yX0_isFallen qX0_isFallen σ [.ref (d.2.2.1 v0)] (some r, σ) := me_of (avs := fun d => [.ref (d.2.2.1 v0)]) (by decide) rfl (Nat.le_of_ble_eq_true rfl) (fun E => gX0_isFallen E σ v0 n_v0 k_v0 h)
theorem nbX0_isFallen {σ : Mem} {v0 : Nat} : narrow .boolean (.int (fX0_isFallen σ v0)) = .int (fX0_isFallen σ v0) := by
  unfold fX0_isFallen
  repeat' split
  all_goals rfl
def fX0_isKind (σ : Mem) (v0 : Nat) (v1 : Int32) : Int32 :=
  if v1 = 0 then
    (1)
  else
    (if v1 = σ v0 0 then
      (1)
    else
      (if v1 = 2 then
        (if σ v0 0 = 3 then
          (1)
        else
          (0))
      else
        (0)))
set_option maxHeartbeats 4000000 in
set_option maxRecDepth 20000 in
theorem gX0_isKind (E : XE) {r : Int32} (σ : Mem) (v0 : Nat) (v1 : Int32) (n_v0 : v0 < LX.1) (k_v0 : LX.2.1 v0 = 0) (h : fX0_isKind σ v0 v1 = r) : G E LX qX0_isKind σ 0 [(0, .ref (xa E v0)), (1, .int v1)] [] (some r, σ) := by
  unfold fX0_isKind at h
  refine r_iload_n (pc := 0) 1 dX0_isKind_0 rfl rfl ?_
  refine r_if_eq (pc := 1) 25 dX0_isKind_1 (by decide) h (fun c1 h => ?_) (fun c1 h => ?_)
  · refine r_iconst (pc := 25) dX0_isKind_25 ci_1 ?_
    refine r_goto (pc := 26) 30 dX0_isKind_26 (by decide) ?_
    exact r_zret (pc := 30) rfl rfl dX0_isKind_30 h rfl
  · refine r_iload_n (pc := 4) 1 dX0_isKind_4 rfl rfl ?_
    refine r_aload_n (pc := 5) 0 dX0_isKind_5 rfl rfl ?_
    refine r_getI (pc := 6) (i := v0) fdRX0_15 n_v0 k_v0 (by decide) dX0_isKind_6 ?_
    refine r_icmp_eq (pc := 9) 25 dX0_isKind_9 (by decide) h (fun c2 h => ?_) (fun c2 h => ?_)
    · refine r_iconst (pc := 25) dX0_isKind_25 ci_1 ?_
      refine r_goto (pc := 26) 30 dX0_isKind_26 (by decide) ?_
      exact r_zret (pc := 30) rfl rfl dX0_isKind_30 h rfl
    · refine r_iload_n (pc := 12) 1 dX0_isKind_12 rfl rfl ?_
      refine r_iconst (pc := 13) dX0_isKind_13 ci_2 ?_
      refine r_icmp_ne (pc := 14) 29 dX0_isKind_14 (by decide) h (fun c3 h => ?_) (fun c3 h => ?_)
      · refine r_aload_n (pc := 17) 0 dX0_isKind_17 rfl rfl ?_
        refine r_getI (pc := 18) (i := v0) fdRX0_15 n_v0 k_v0 (by decide) dX0_isKind_18 ?_
        refine r_iconst (pc := 21) dX0_isKind_21 ci_3 ?_
        refine r_icmp_ne (pc := 22) 29 dX0_isKind_22 (by decide) h (fun c4 h => ?_) (fun c4 h => ?_)
        · refine r_iconst (pc := 25) dX0_isKind_25 ci_1 ?_
          refine r_goto (pc := 26) 30 dX0_isKind_26 (by decide) ?_
          exact r_zret (pc := 30) rfl rfl dX0_isKind_30 h rfl
        · refine r_iconst (pc := 29) dX0_isKind_29 ci_0 ?_
          exact r_zret (pc := 30) rfl rfl dX0_isKind_30 h rfl
      · refine r_iconst (pc := 29) dX0_isKind_29 ci_0 ?_
        exact r_zret (pc := 30) rfl rfl dX0_isKind_30 h rfl
theorem ceX0_isKind (l : Launch) (d : SD) (σ : Mem) (v0 : Nat) (v1 : Int32) (n_v0 : v0 < LX.1) (k_v0 : LX.2.1 v0 = 0) {r : Int32} (h : fX0_isKind σ v0 v1 = r) : Me l d LX yX0_isKind qX0_isKind σ [.ref (d.2.2.1 v0), .int v1] (some r, σ) := me_of (avs := fun d => [.ref (d.2.2.1 v0), .int v1]) (by decide) rfl (Nat.le_of_ble_eq_true rfl) (fun E => gX0_isKind E σ v0 v1 n_v0 k_v0 h)
theorem nbX0_isKind {σ : Mem} {v0 : Nat} {v1 : Int32} : narrow .boolean (.int (fX0_isKind σ v0 v1)) = .int (fX0_isKind σ v0 v1) := by
  unfold fX0_isKind
  repeat' split
  all_goals rfl
def fX0_wear (σ : Mem) (v0 : Nat) : Int32 :=
  bi (10 + (4 * (σ v0 2))) (fun x1 =>
  if σ v0 0 = 1 then
    (x1 / 2)
  else
    if σ v0 0 = 2 then
    (x1 + 15)
  else
    if σ v0 0 = 3 then
    (2 * (x1 + 15))
  else
    (x1))
set_option maxHeartbeats 4000000 in
set_option maxRecDepth 20000 in
theorem gX0_wear (E : XE) {r : Int32} (σ : Mem) (v0 : Nat) (n_v0 : v0 < LX.1) (k_v0 : LX.2.1 v0 = 0) (h : fX0_wear σ v0 = r) : G E LX qX0_wear σ 0 [(0, .ref (xa E v0))] [] (some r, σ) := by
  unfold fX0_wear at h
  refine r_bipush (pc := 0) dX0_wear_0 cb_10 ?_
  refine r_iconst (pc := 2) dX0_wear_2 ci_4 ?_
  refine r_aload_n (pc := 3) 0 dX0_wear_3 rfl rfl ?_
  refine r_getI (pc := 4) (i := v0) fdRX0_30 n_v0 k_v0 (by decide) dX0_wear_4 ?_
  refine r_imul (pc := 7) dX0_wear_7 ?_
  refine r_iadd (pc := 8) dX0_wear_8 ?_
  refine g_bi h (fun x1 ex1 h => ?_)
  refine r_istore_n (pc := 9) (lv' := [(1, .int x1), (0, .ref (xa E v0))]) dX0_wear_9 rfl (Nat.le_of_ble_eq_true rfl) rfl ?_
  refine r_aload_n (pc := 10) 1 dX0_wear_10 rfl rfl ?_
  refine r_getI (pc := 11) (i := v0) fdRX0_15 n_v0 k_v0 (by decide) dX0_wear_11 ?_
  refine ite_k h (fun c1 h => ?_) (fun c1 h => ?_)
  · refine r_tabIn (pc := 14) (off := 26) 40 c1 dX0_wear_14 (by decide) (by decide) (by decide) (by decide) ?_
    refine r_iload_n (pc := 40) 0 dX0_wear_40 rfl rfl ?_
    refine r_iconst (pc := 41) dX0_wear_41 ci_2 ?_
    refine r_idiv (pc := 42) dX0_wear_42 (by decide) ?_
    exact r_iret (pc := 43) rfl dX0_wear_43 h rfl
  refine ite_k h (fun c2 h => ?_) (fun c2 h => ?_)
  · refine r_tabIn (pc := 14) (off := 30) 44 c2 dX0_wear_14 (by decide) (by decide) (by decide) (by decide) ?_
    refine r_iload_n (pc := 44) 0 dX0_wear_44 rfl rfl ?_
    refine r_bipush (pc := 45) dX0_wear_45 cb_15 ?_
    refine r_iadd (pc := 47) dX0_wear_47 ?_
    exact r_iret (pc := 48) rfl dX0_wear_48 h rfl
  refine ite_k h (fun c3 h => ?_) (fun c3 h => ?_)
  · refine r_tabIn (pc := 14) (off := 35) 49 c3 dX0_wear_14 (by decide) (by decide) (by decide) (by decide) ?_
    refine r_iconst (pc := 49) dX0_wear_49 ci_2 ?_
    refine r_iload_n (pc := 50) 0 dX0_wear_50 rfl rfl ?_
    refine r_bipush (pc := 51) dX0_wear_51 cb_15 ?_
    refine r_iadd (pc := 53) dX0_wear_53 ?_
    refine r_imul (pc := 54) dX0_wear_54 ?_
    exact r_iret (pc := 55) rfl dX0_wear_55 h rfl
  refine r_tabOut (pc := 14) 56 dX0_wear_14 (by have ec1 := ti_ne (z := 1) c1 (by decide); have ec2 := ti_ne (z := 2) c2 (by decide); have ec3 := ti_ne (z := 3) c3 (by decide); omega) (by decide) ?_
  refine r_iload_n (pc := 56) 0 dX0_wear_56 rfl rfl ?_
  exact r_iret (pc := 57) rfl dX0_wear_57 h rfl
theorem ceX0_wear (l : Launch) (d : SD) (σ : Mem) (v0 : Nat) (n_v0 : v0 < LX.1) (k_v0 : LX.2.1 v0 = 0) {r : Int32} (h : fX0_wear σ v0 = r) : Me l d LX yX0_wear qX0_wear σ [.ref (d.2.2.1 v0)] (some r, σ) := me_of (avs := fun d => [.ref (d.2.2.1 v0)]) (by decide) rfl (Nat.le_of_ble_eq_true rfl) (fun E => gX0_wear E σ v0 n_v0 k_v0 h)
def fX0_scour (σ : Mem) (v0 : Nat) (v1 : Int32) (v2 : Int32) : Int32 :=
  bi ((v1 * (10 + v2)) / 10) (fun x1 =>
  if σ v0 0 = 1 then
    (x1 / 2)
  else
    (x1))
set_option maxHeartbeats 4000000 in
set_option maxRecDepth 20000 in
theorem gX0_scour (E : XE) {r : Int32} (σ : Mem) (v0 : Nat) (v1 : Int32) (v2 : Int32) (n_v0 : v0 < LX.1) (k_v0 : LX.2.1 v0 = 0) (h : fX0_scour σ v0 v1 v2 = r) : G E LX qX0_scour σ 0 [(0, .ref (xa E v0)), (1, .int v1), (2, .int v2)] [] (some r, σ) := by
  unfold fX0_scour at h
  refine r_iload_n (pc := 0) 1 dX0_scour_0 rfl rfl ?_
  refine r_bipush (pc := 1) dX0_scour_1 cb_10 ?_
  refine r_iload_n (pc := 3) 2 dX0_scour_3 rfl rfl ?_
  refine r_iadd (pc := 4) dX0_scour_4 ?_
  refine r_imul (pc := 5) dX0_scour_5 ?_
  refine r_bipush (pc := 6) dX0_scour_6 cb_10 ?_
  refine r_idiv (pc := 8) dX0_scour_8 (by decide) ?_
  refine g_bi h (fun x1 ex1 h => ?_)
  refine r_istore_n (pc := 9) (lv' := [(3, .int x1), (0, .ref (xa E v0)), (1, .int v1), (2, .int v2)]) dX0_scour_9 rfl (Nat.le_of_ble_eq_true rfl) rfl ?_
  refine r_aload_n (pc := 10) 1 dX0_scour_10 rfl rfl ?_
  refine r_getI (pc := 11) (i := v0) fdRX0_15 n_v0 k_v0 (by decide) dX0_scour_11 ?_
  refine r_iconst (pc := 14) dX0_scour_14 ci_1 ?_
  refine r_icmp_ne (pc := 15) 24 dX0_scour_15 (by decide) h (fun c1 h => ?_) (fun c1 h => ?_)
  · refine r_iload_n (pc := 18) 0 dX0_scour_18 rfl rfl ?_
    refine r_iconst (pc := 19) dX0_scour_19 ci_2 ?_
    refine r_idiv (pc := 20) dX0_scour_20 (by decide) ?_
    refine r_goto (pc := 21) 25 dX0_scour_21 (by decide) ?_
    exact r_iret (pc := 25) rfl dX0_scour_25 h rfl
  · refine r_iload_n (pc := 24) 0 dX0_scour_24 rfl rfl ?_
    exact r_iret (pc := 25) rfl dX0_scour_25 h rfl
theorem ceX0_scour (l : Launch) (d : SD) (σ : Mem) (v0 : Nat) (v1 : Int32) (v2 : Int32) (n_v0 : v0 < LX.1) (k_v0 : LX.2.1 v0 = 0) {r : Int32} (h : fX0_scour σ v0 v1 v2 = r) : Me l d LX yX0_scour qX0_scour σ [.ref (d.2.2.1 v0), .int v1, .int v2] (some r, σ) := me_of (avs := fun d => [.ref (d.2.2.1 v0), .int v1, .int v2]) (by decide) rfl (Nat.le_of_ble_eq_true rfl) (fun E => gX0_scour E σ v0 v1 v2 n_v0 k_v0 h)
def fX0_loss (σ : Mem) (v0 : Nat) (v1 : Int32) (v2 : Int32) : Int32 :=
  if fX0_isFallen σ v0 = 0 then
    ((fX0_wear σ v0) + (fX0_scour σ v0 v1 v2))
  else
    (0)
set_option maxHeartbeats 4000000 in
set_option maxRecDepth 20000 in
theorem gX0_loss (E : XE) {r : Int32} (σ : Mem) (v0 : Nat) (v1 : Int32) (v2 : Int32) (n_v0 : v0 < LX.1) (k_v0 : LX.2.1 v0 = 0) (h : fX0_loss σ v0 v1 v2 = r) : G E LX qX0_loss σ 0 [(0, .ref (xa E v0)), (1, .int v1), (2, .int v2)] [] (some r, σ) := by
  unfold fX0_loss at h
  refine r_aload_n (pc := 0) 0 dX0_loss_0 rfl rfl ?_
  refine r_callV (pc := 1) (i := v0) (As := []) (rest := []) lkRX0_18 (ceX0_isFallen _ _ σ v0 n_v0 k_v0 rfl) n_v0 k_v0 (by decide) rfl ⟨Nat.le_of_ble_eq_true rfl, Nat.le_of_ble_eq_true rfl⟩ rfl rfl (Nat.le_of_ble_eq_true rfl) dX0_loss_1 rfl ?_
  refine r_if_eq (pc := 4) 11 dX0_loss_4 (by decide) h (fun c1 h => ?_) (fun c1 h => ?_)
  · refine r_aload_n (pc := 11) 0 dX0_loss_11 rfl rfl ?_
    refine r_callV (pc := 12) (i := v0) (As := []) (rest := []) lkRX0_22 (ceX0_wear _ _ σ v0 n_v0 k_v0 rfl) n_v0 k_v0 (by decide) rfl ⟨Nat.le_of_ble_eq_true rfl, Nat.le_of_ble_eq_true rfl⟩ rfl rfl (Nat.le_of_ble_eq_true rfl) dX0_loss_12 rfl ?_
    refine r_aload_n (pc := 15) 0 dX0_loss_15 rfl rfl ?_
    refine r_iload_n (pc := 16) 1 dX0_loss_16 rfl rfl ?_
    refine r_iload_n (pc := 17) 2 dX0_loss_17 rfl rfl ?_
    refine r_callV (pc := 18) (i := v0) (As := [.int v1, .int v2]) (rest := [.int (fX0_wear σ v0)]) lkRX0_26 (ceX0_scour _ _ σ v0 v1 v2 n_v0 k_v0 rfl) n_v0 k_v0 (by decide) rfl ⟨Nat.le_of_ble_eq_true rfl, Nat.le_of_ble_eq_true rfl⟩ rfl rfl (Nat.le_of_ble_eq_true rfl) dX0_loss_18 rfl ?_
    refine r_iadd (pc := 21) dX0_loss_21 ?_
    exact r_iret (pc := 22) rfl dX0_loss_22 h rfl
  · refine r_iconst (pc := 7) dX0_loss_7 ci_0 ?_
    refine r_goto (pc := 8) 22 dX0_loss_8 (by decide) ?_
    exact r_iret (pc := 22) rfl dX0_loss_22 h rfl
theorem ceX0_loss (l : Launch) (d : SD) (σ : Mem) (v0 : Nat) (v1 : Int32) (v2 : Int32) (n_v0 : v0 < LX.1) (k_v0 : LX.2.1 v0 = 0) {r : Int32} (h : fX0_loss σ v0 v1 v2 = r) : Me l d LX yX0_loss qX0_loss σ [.ref (d.2.2.1 v0), .int v1, .int v2] (some r, σ) := me_of (avs := fun d => [.ref (d.2.2.1 v0), .int v1, .int v2]) (by decide) rfl (Nat.le_of_ble_eq_true rfl) (fun E => gX0_loss E σ v0 v1 v2 n_v0 k_v0 h)
def fX0_weaken (σ : Mem) (v0 : Nat) (v1 : Int32) : Option Mem :=
  bm (mset σ v0 1 (if 0 < (σ v0 1) - v1 then (σ v0 1) - v1 else 0)) (fun m1 =>
  if fX0_isFallen m1 v0 = 0 then
    (some m1)
  else
    (bm (mset m1 v0 2 0) (fun m2 =>
    bm (mset m2 v0 3 0) (fun m3 =>
    some m3))))
set_option maxHeartbeats 4000000 in
set_option maxRecDepth 20000 in
theorem gX0_weaken (E : XE) {r : Mem} (σ : Mem) (v0 : Nat) (v1 : Int32) (n_v0 : v0 < LX.1) (k_v0 : LX.2.1 v0 = 0) (h : fX0_weaken σ v0 v1 = some r) : G E LX qX0_weaken σ 0 [(0, .ref (xa E v0)), (1, .int v1)] [] (none, r) := by
  unfold fX0_weaken at h
  refine r_aload_n (pc := 0) 0 dX0_weaken_0 rfl rfl ?_
  refine r_iconst (pc := 1) dX0_weaken_1 ci_0 ?_
  refine r_aload_n (pc := 2) 0 dX0_weaken_2 rfl rfl ?_
  refine r_getI (pc := 3) (i := v0) fdRX0_9 n_v0 k_v0 (by decide) dX0_weaken_3 ?_
  refine r_iload_n (pc := 6) 1 dX0_weaken_6 rfl rfl ?_
  refine r_isub (pc := 7) dX0_weaken_7 ?_
  refine r_max (pc := 8) w_413 w_414 w_62 w_415 ⟨Nat.le_of_ble_eq_true rfl, Nat.le_of_ble_eq_true rfl⟩ dX0_weaken_8 ?_
  refine r_putI (pc := 11) (i := v0) fpRX0_9 n_v0 k_v0 (by decide) rfl rfl dX0_weaken_11 ?_
  refine g_bm h (fun m1 em1 h => ?_)
  refine r_aload_n (pc := 14) 0 dX0_weaken_14 rfl rfl ?_
  refine r_callV (pc := 15) (i := v0) (As := []) (rest := []) lkRX0_18 (ceX0_isFallen _ _ m1 v0 n_v0 k_v0 rfl) n_v0 k_v0 (by decide) rfl ⟨Nat.le_of_ble_eq_true rfl, Nat.le_of_ble_eq_true rfl⟩ rfl rfl (Nat.le_of_ble_eq_true rfl) dX0_weaken_15 rfl ?_
  refine r_if_eq (pc := 18) 31 dX0_weaken_18 (by decide) h (fun c1 h => ?_) (fun c1 h => ?_)
  · exact r_vret (pc := 31) rfl dX0_weaken_31 (Option.some.inj h)
  · refine r_aload_n (pc := 21) 0 dX0_weaken_21 rfl rfl ?_
    refine r_iconst (pc := 22) dX0_weaken_22 ci_0 ?_
    refine r_putI (pc := 23) (i := v0) fpRX0_30 n_v0 k_v0 (by decide) rfl rfl dX0_weaken_23 ?_
    refine g_bm h (fun m2 em2 h => ?_)
    refine r_aload_n (pc := 26) 0 dX0_weaken_26 rfl rfl ?_
    refine r_iconst (pc := 27) dX0_weaken_27 ci_0 ?_
    refine r_putI (pc := 28) (i := v0) fpRX0_38 n_v0 k_v0 (by decide) rfl rfl dX0_weaken_28 ?_
    refine g_bm h (fun m3 em3 h => ?_)
    exact r_vret (pc := 31) rfl dX0_weaken_31 (Option.some.inj h)
theorem ceX0_weaken (l : Launch) (d : SD) (σ : Mem) (v0 : Nat) (v1 : Int32) (n_v0 : v0 < LX.1) (k_v0 : LX.2.1 v0 = 0) {r : Mem} (h : fX0_weaken σ v0 v1 = some r) : Me l d LX yX0_weaken qX0_weaken σ [.ref (d.2.2.1 v0), .int v1] (none, r) := me_of (avs := fun d => [.ref (d.2.2.1 v0), .int v1]) (by decide) rfl (Nat.le_of_ble_eq_true rfl) (fun E => gX0_weaken E σ v0 v1 n_v0 k_v0 h)
def fX0_gain (σ : Mem) (v0 : Nat) : Int32 :=
  if σ v0 0 = 1 then
    (4)
  else
    if σ v0 0 = 2 then
    (9)
  else
    if σ v0 0 = 3 then
    (9)
  else
    (6)
set_option maxHeartbeats 4000000 in
set_option maxRecDepth 20000 in
theorem gX0_gain (E : XE) {r : Int32} (σ : Mem) (v0 : Nat) (n_v0 : v0 < LX.1) (k_v0 : LX.2.1 v0 = 0) (h : fX0_gain σ v0 = r) : G E LX qX0_gain σ 0 [(0, .ref (xa E v0))] [] (some r, σ) := by
  unfold fX0_gain at h
  refine r_aload_n (pc := 0) 0 dX0_gain_0 rfl rfl ?_
  refine r_getI (pc := 1) (i := v0) fdRX0_15 n_v0 k_v0 (by decide) dX0_gain_1 ?_
  refine ite_k h (fun c1 h => ?_) (fun c1 h => ?_)
  · refine r_tabIn (pc := 4) (off := 28) 32 c1 dX0_gain_4 (by decide) (by decide) (by decide) (by decide) ?_
    refine r_iconst (pc := 32) dX0_gain_32 ci_4 ?_
    exact r_iret (pc := 33) rfl dX0_gain_33 h rfl
  refine ite_k h (fun c2 h => ?_) (fun c2 h => ?_)
  · refine r_tabIn (pc := 4) (off := 30) 34 c2 dX0_gain_4 (by decide) (by decide) (by decide) (by decide) ?_
    refine r_bipush (pc := 34) dX0_gain_34 cb_9 ?_
    exact r_iret (pc := 36) rfl dX0_gain_36 h rfl
  refine ite_k h (fun c3 h => ?_) (fun c3 h => ?_)
  · refine r_tabIn (pc := 4) (off := 30) 34 c3 dX0_gain_4 (by decide) (by decide) (by decide) (by decide) ?_
    refine r_bipush (pc := 34) dX0_gain_34 cb_9 ?_
    exact r_iret (pc := 36) rfl dX0_gain_36 h rfl
  refine r_tabOut (pc := 4) 37 dX0_gain_4 (by have ec1 := ti_ne (z := 1) c1 (by decide); have ec2 := ti_ne (z := 2) c2 (by decide); have ec3 := ti_ne (z := 3) c3 (by decide); omega) (by decide) ?_
  refine r_bipush (pc := 37) dX0_gain_37 cb_6 ?_
  exact r_iret (pc := 39) rfl dX0_gain_39 h rfl
theorem ceX0_gain (l : Launch) (d : SD) (σ : Mem) (v0 : Nat) (n_v0 : v0 < LX.1) (k_v0 : LX.2.1 v0 = 0) {r : Int32} (h : fX0_gain σ v0 = r) : Me l d LX yX0_gain qX0_gain σ [.ref (d.2.2.1 v0)] (some r, σ) := me_of (avs := fun d => [.ref (d.2.2.1 v0)]) (by decide) rfl (Nat.le_of_ble_eq_true rfl) (fun E => gX0_gain E σ v0 n_v0 k_v0 h)
def fX0_coinsUpTo (σ : Mem) (v0 : Nat) (v1 : Int32) : Option Int32 :=
  bi ((if 0 < v1 - (σ v0 1) then v1 - (σ v0 1) else 0)) (fun x1 =>
  if fX0_gain σ v0 = 0 then none else
  some (((x1 + (fX0_gain σ v0)) - 1) / (fX0_gain σ v0)))
set_option maxHeartbeats 4000000 in
set_option maxRecDepth 20000 in
theorem gX0_coinsUpTo (E : XE) {r : Int32} (σ : Mem) (v0 : Nat) (v1 : Int32) (n_v0 : v0 < LX.1) (k_v0 : LX.2.1 v0 = 0) (h : fX0_coinsUpTo σ v0 v1 = some r) : G E LX qX0_coinsUpTo σ 0 [(0, .ref (xa E v0)), (1, .int v1)] [] (some r, σ) := by
  unfold fX0_coinsUpTo at h
  refine r_iconst (pc := 0) dX0_coinsUpTo_0 ci_0 ?_
  refine r_iload_n (pc := 1) 1 dX0_coinsUpTo_1 rfl rfl ?_
  refine r_aload_n (pc := 2) 0 dX0_coinsUpTo_2 rfl rfl ?_
  refine r_getI (pc := 3) (i := v0) fdRX0_9 n_v0 k_v0 (by decide) dX0_coinsUpTo_3 ?_
  refine r_isub (pc := 6) dX0_coinsUpTo_6 ?_
  refine r_max (pc := 7) w_413 w_414 w_62 w_415 ⟨Nat.le_of_ble_eq_true rfl, Nat.le_of_ble_eq_true rfl⟩ dX0_coinsUpTo_7 ?_
  refine g_bi h (fun x1 ex1 h => ?_)
  refine r_istore_n (pc := 10) (lv' := [(2, .int x1), (0, .ref (xa E v0)), (1, .int v1)]) dX0_coinsUpTo_10 rfl (Nat.le_of_ble_eq_true rfl) rfl ?_
  refine r_iload_n (pc := 11) 0 dX0_coinsUpTo_11 rfl rfl ?_
  refine r_aload_n (pc := 12) 1 dX0_coinsUpTo_12 rfl rfl ?_
  refine r_callV (pc := 13) (i := v0) (As := []) (rest := [.int x1]) lkRX0_41 (ceX0_gain _ _ σ v0 n_v0 k_v0 rfl) n_v0 k_v0 (by decide) rfl ⟨Nat.le_of_ble_eq_true rfl, Nat.le_of_ble_eq_true rfl⟩ rfl rfl (Nat.le_of_ble_eq_true rfl) dX0_coinsUpTo_13 rfl ?_
  refine r_iadd (pc := 16) dX0_coinsUpTo_16 ?_
  refine r_iconst (pc := 17) dX0_coinsUpTo_17 ci_1 ?_
  refine r_isub (pc := 18) dX0_coinsUpTo_18 ?_
  refine r_aload_n (pc := 19) 1 dX0_coinsUpTo_19 rfl rfl ?_
  refine r_callV (pc := 20) (i := v0) (As := []) (rest := [.int ((x1 + (fX0_gain σ v0)) - 1)]) lkRX0_41 (ceX0_gain _ _ σ v0 n_v0 k_v0 rfl) n_v0 k_v0 (by decide) rfl ⟨Nat.le_of_ble_eq_true rfl, Nat.le_of_ble_eq_true rfl⟩ rfl rfl (Nat.le_of_ble_eq_true rfl) dX0_coinsUpTo_20 rfl ?_
  refine ite_k h (fun c1 h => nomatch h) (fun c1 h => ?_)
  refine r_idiv (pc := 23) dX0_coinsUpTo_23 c1 ?_
  exact r_iret (pc := 24) rfl dX0_coinsUpTo_24 (Option.some.inj h) rfl
theorem ceX0_coinsUpTo (l : Launch) (d : SD) (σ : Mem) (v0 : Nat) (v1 : Int32) (n_v0 : v0 < LX.1) (k_v0 : LX.2.1 v0 = 0) {r : Int32} (h : fX0_coinsUpTo σ v0 v1 = some r) : Me l d LX yX0_coinsUpTo qX0_coinsUpTo σ [.ref (d.2.2.1 v0), .int v1] (some r, σ) := me_of (avs := fun d => [.ref (d.2.2.1 v0), .int v1]) (by decide) rfl (Nat.le_of_ble_eq_true rfl) (fun E => gX0_coinsUpTo E σ v0 v1 n_v0 k_v0 h)
def fX0_mend (σ : Mem) (v0 : Nat) (v1 : Int32) : Option Mem :=
  bm (mset σ v0 1 (if (σ v0 1) + (v1 * (fX0_gain σ v0)) < 1000 then (σ v0 1) + (v1 * (fX0_gain σ v0)) else 1000)) (fun m1 =>
  bm (mset m1 v0 4 ((m1 v0 4) + v1)) (fun m2 =>
  some m2))
set_option maxHeartbeats 4000000 in
set_option maxRecDepth 20000 in
theorem gX0_mend (E : XE) {r : Mem} (σ : Mem) (v0 : Nat) (v1 : Int32) (n_v0 : v0 < LX.1) (k_v0 : LX.2.1 v0 = 0) (h : fX0_mend σ v0 v1 = some r) : G E LX qX0_mend σ 0 [(0, .ref (xa E v0)), (1, .int v1)] [] (none, r) := by
  unfold fX0_mend at h
  refine r_aload_n (pc := 0) 0 dX0_mend_0 rfl rfl ?_
  refine r_sipush (pc := 1) dX0_mend_1 cs_1000 ?_
  refine r_aload_n (pc := 4) 0 dX0_mend_4 rfl rfl ?_
  refine r_getI (pc := 5) (i := v0) fdRX0_9 n_v0 k_v0 (by decide) dX0_mend_5 ?_
  refine r_iload_n (pc := 8) 1 dX0_mend_8 rfl rfl ?_
  refine r_aload_n (pc := 9) 0 dX0_mend_9 rfl rfl ?_
  refine r_callV (pc := 10) (i := v0) (As := []) (rest := [.int v1, .int (σ v0 1), .int 1000, .ref (xa E v0)]) lkRX0_41 (ceX0_gain _ _ σ v0 n_v0 k_v0 rfl) n_v0 k_v0 (by decide) rfl ⟨Nat.le_of_ble_eq_true rfl, Nat.le_of_ble_eq_true rfl⟩ rfl rfl (Nat.le_of_ble_eq_true rfl) dX0_mend_10 rfl ?_
  refine r_imul (pc := 13) dX0_mend_13 ?_
  refine r_iadd (pc := 14) dX0_mend_14 ?_
  refine r_min (pc := 15) w_670 w_401 w_62 w_402 ⟨Nat.le_of_ble_eq_true rfl, Nat.le_of_ble_eq_true rfl⟩ dX0_mend_15 ?_
  refine r_putI (pc := 18) (i := v0) fpRX0_9 n_v0 k_v0 (by decide) rfl rfl dX0_mend_18 ?_
  refine g_bm h (fun m1 em1 h => ?_)
  refine r_aload_n (pc := 21) 0 dX0_mend_21 rfl rfl ?_
  refine r_dup (pc := 22) dX0_mend_22 rfl ?_
  refine r_getI (pc := 23) (i := v0) fdRX0_47 n_v0 k_v0 (by decide) dX0_mend_23 ?_
  refine r_iload_n (pc := 26) 1 dX0_mend_26 rfl rfl ?_
  refine r_iadd (pc := 27) dX0_mend_27 ?_
  refine r_putI (pc := 28) (i := v0) fpRX0_47 n_v0 k_v0 (by decide) rfl rfl dX0_mend_28 ?_
  refine g_bm h (fun m2 em2 h => ?_)
  exact r_vret (pc := 31) rfl dX0_mend_31 (Option.some.inj h)
theorem ceX0_mend (l : Launch) (d : SD) (σ : Mem) (v0 : Nat) (v1 : Int32) (n_v0 : v0 < LX.1) (k_v0 : LX.2.1 v0 = 0) {r : Mem} (h : fX0_mend σ v0 v1 = some r) : Me l d LX yX0_mend qX0_mend σ [.ref (d.2.2.1 v0), .int v1] (none, r) := me_of (avs := fun d => [.ref (d.2.2.1 v0), .int v1]) (by decide) rfl (Nat.le_of_ble_eq_true rfl) (fun E => gX0_mend E σ v0 v1 n_v0 k_v0 h)
def fX0_becomeLike (σ : Mem) (v0 : Nat) (v1 : Nat) : Option Mem :=
  bm (mset σ v0 0 (σ v1 0)) (fun m1 =>
  bm (mset m1 v0 1 (m1 v1 1)) (fun m2 =>
  bm (mset m2 v0 2 (m2 v1 2)) (fun m3 =>
  bm (mset m3 v0 3 (m3 v1 3)) (fun m4 =>
  some m4))))
set_option maxHeartbeats 4000000 in
set_option maxRecDepth 20000 in
theorem gX0_becomeLike (E : XE) {r : Mem} (σ : Mem) (v0 : Nat) (v1 : Nat) (n_v0 : v0 < LX.1) (k_v0 : LX.2.1 v0 = 0) (n_v1 : v1 < LX.1) (k_v1 : LX.2.1 v1 = 0) (h : fX0_becomeLike σ v0 v1 = some r) : G E LX qX0_becomeLike σ 0 [(0, .ref (xa E v0)), (1, .ref (xa E v1))] [] (none, r) := by
  unfold fX0_becomeLike at h
  refine r_aload_n (pc := 0) 0 dX0_becomeLike_0 rfl rfl ?_
  refine r_aload_n (pc := 1) 1 dX0_becomeLike_1 rfl rfl ?_
  refine r_getI (pc := 2) (i := v1) fdRX0_15 n_v1 k_v1 (by decide) dX0_becomeLike_2 ?_
  refine r_putI (pc := 5) (i := v0) fpRX0_15 n_v0 k_v0 (by decide) rfl rfl dX0_becomeLike_5 ?_
  refine g_bm h (fun m1 em1 h => ?_)
  refine r_aload_n (pc := 8) 0 dX0_becomeLike_8 rfl rfl ?_
  refine r_aload_n (pc := 9) 1 dX0_becomeLike_9 rfl rfl ?_
  refine r_getI (pc := 10) (i := v1) fdRX0_9 n_v1 k_v1 (by decide) dX0_becomeLike_10 ?_
  refine r_putI (pc := 13) (i := v0) fpRX0_9 n_v0 k_v0 (by decide) rfl rfl dX0_becomeLike_13 ?_
  refine g_bm h (fun m2 em2 h => ?_)
  refine r_aload_n (pc := 16) 0 dX0_becomeLike_16 rfl rfl ?_
  refine r_aload_n (pc := 17) 1 dX0_becomeLike_17 rfl rfl ?_
  refine r_getI (pc := 18) (i := v1) fdRX0_30 n_v1 k_v1 (by decide) dX0_becomeLike_18 ?_
  refine r_putI (pc := 21) (i := v0) fpRX0_30 n_v0 k_v0 (by decide) rfl rfl dX0_becomeLike_21 ?_
  refine g_bm h (fun m3 em3 h => ?_)
  refine r_aload_n (pc := 24) 0 dX0_becomeLike_24 rfl rfl ?_
  refine r_aload_n (pc := 25) 1 dX0_becomeLike_25 rfl rfl ?_
  refine r_getI (pc := 26) (i := v1) fdRX0_38 n_v1 k_v1 (by decide) dX0_becomeLike_26 ?_
  refine r_putI (pc := 29) (i := v0) fpRX0_38 n_v0 k_v0 (by decide) rfl rfl dX0_becomeLike_29 ?_
  refine g_bm h (fun m4 em4 h => ?_)
  exact r_vret (pc := 32) rfl dX0_becomeLike_32 (Option.some.inj h)
theorem ceX0_becomeLike (l : Launch) (d : SD) (σ : Mem) (v0 : Nat) (v1 : Nat) (n_v0 : v0 < LX.1) (k_v0 : LX.2.1 v0 = 0) (n_v1 : v1 < LX.1) (k_v1 : LX.2.1 v1 = 0) {r : Mem} (h : fX0_becomeLike σ v0 v1 = some r) : Me l d LX yX0_becomeLike qX0_becomeLike σ [.ref (d.2.2.1 v0), .ref (d.2.2.1 v1)] (none, r) := me_of (avs := fun d => [.ref (d.2.2.1 v0), .ref (d.2.2.1 v1)]) (by decide) rfl (Nat.le_of_ble_eq_true rfl) (fun E => gX0_becomeLike E σ v0 v1 n_v0 k_v0 n_v1 k_v1 h)
def fX1_write (σ : Mem) (v1 : Int32) (v2 : Int32) (v3 : Int32) (v4 : Int32) : Option Mem :=
  bi ((((σ 11 1) + (σ 11 2)) - ((σ 11 1) + (σ 11 2)) / 200 * 200) * 4) (fun x1 =>
  if inb x1 800 = true then
  (bm (mset σ 12 x1.toNatClampNeg v1) (fun m1 =>
  if inb (x1 + 1) 800 = true then
  (bm (mset m1 12 ((x1 + 1).toNatClampNeg) v2) (fun m2 =>
  if inb (x1 + 2) 800 = true then
  (bm (mset m2 12 ((x1 + 2).toNatClampNeg) v3) (fun m3 =>
  if inb (x1 + 3) 800 = true then
  (bm (mset m3 12 ((x1 + 3).toNatClampNeg) v4) (fun m4 =>
  if 200 ≤ m4 11 2 then
    (bm (mset m4 11 1 (((m4 11 1) + 1) - ((m4 11 1) + 1) / 200 * 200)) (fun m5 =>
    some m5))
  else
    (bm (mset m4 11 2 ((m4 11 2) + 1)) (fun m6 =>
    some m6))))
  else none))
  else none))
  else none))
  else none)
set_option maxHeartbeats 4000000 in
set_option maxRecDepth 20000 in
theorem gX1_write (E : XE) {r : Mem} (σ : Mem) (v1 : Int32) (v2 : Int32) (v3 : Int32) (v4 : Int32)  (h : fX1_write σ v1 v2 v3 v4 = some r) : G E LX qX1_write σ 0 [(0, .ref (xa E 11)), (1, .int v1), (2, .int v2), (3, .int v3), (4, .int v4)] [] (none, r) := by
  unfold fX1_write at h
  refine r_aload_n (pc := 0) 0 dX1_write_0 rfl rfl ?_
  refine r_getI (pc := 1) (i := 11) fdRX1_15 nLX_11 kLX_11 (by decide) dX1_write_1 ?_
  refine r_aload_n (pc := 4) 0 dX1_write_4 rfl rfl ?_
  refine r_getI (pc := 5) (i := 11) fdRX1_19 nLX_11 kLX_11 (by decide) dX1_write_5 ?_
  refine r_iadd (pc := 8) dX1_write_8 ?_
  refine r_sipush (pc := 9) dX1_write_9 cs_200 ?_
  refine r_irem (pc := 12) dX1_write_12 (by decide) ?_
  refine r_iconst (pc := 13) dX1_write_13 ci_4 ?_
  refine r_imul (pc := 14) dX1_write_14 ?_
  refine g_bi h (fun x1 ex1 h => ?_)
  refine r_istore (pc := 15) (lv' := [(5, .int x1), (0, .ref (xa E 11)), (1, .int v1), (2, .int v2), (3, .int v3), (4, .int v4)]) dX1_write_15 (Nat.le_of_ble_eq_true rfl) rfl ?_
  refine r_aload_n (pc := 17) 1 dX1_write_17 rfl rfl ?_
  refine r_getR (pc := 18) (i := 11) (j := 12) fdRX1_9 nLX_11 kLX_11 (by decide) rfl dX1_write_18 ?_
  refine r_iload (pc := 21) 0 dX1_write_21 rfl ?_
  refine r_iload_n (pc := 23) 2 dX1_write_23 rfl rfl ?_
  refine inb_k h (fun b1 h => ?_)
  refine r_iast (pc := 24) (i := 12) (x1.toNatClampNeg) (v1) rfl rfl nLX_12 kLX_12 lLX_12 b1 dX1_write_24 ?_
  refine g_bm h (fun m1 em1 h => ?_)
  refine r_aload_n (pc := 25) 1 dX1_write_25 rfl rfl ?_
  refine r_getR (pc := 26) (i := 11) (j := 12) fdRX1_9 nLX_11 kLX_11 (by decide) rfl dX1_write_26 ?_
  refine r_iload (pc := 29) 0 dX1_write_29 rfl ?_
  refine r_iconst (pc := 31) dX1_write_31 ci_1 ?_
  refine r_iadd (pc := 32) dX1_write_32 ?_
  refine r_iload_n (pc := 33) 3 dX1_write_33 rfl rfl ?_
  refine inb_k h (fun b2 h => ?_)
  refine r_iast (pc := 34) (i := 12) ((x1 + 1).toNatClampNeg) (v2) rfl rfl nLX_12 kLX_12 lLX_12 b2 dX1_write_34 ?_
  refine g_bm h (fun m2 em2 h => ?_)
  refine r_aload_n (pc := 35) 1 dX1_write_35 rfl rfl ?_
  refine r_getR (pc := 36) (i := 11) (j := 12) fdRX1_9 nLX_11 kLX_11 (by decide) rfl dX1_write_36 ?_
  refine r_iload (pc := 39) 0 dX1_write_39 rfl ?_
  refine r_iconst (pc := 41) dX1_write_41 ci_2 ?_
  refine r_iadd (pc := 42) dX1_write_42 ?_
  refine r_iload_n (pc := 43) 4 dX1_write_43 rfl rfl ?_
  refine inb_k h (fun b3 h => ?_)
  refine r_iast (pc := 44) (i := 12) ((x1 + 2).toNatClampNeg) (v3) rfl rfl nLX_12 kLX_12 lLX_12 b3 dX1_write_44 ?_
  refine g_bm h (fun m3 em3 h => ?_)
  refine r_aload_n (pc := 45) 1 dX1_write_45 rfl rfl ?_
  refine r_getR (pc := 46) (i := 11) (j := 12) fdRX1_9 nLX_11 kLX_11 (by decide) rfl dX1_write_46 ?_
  refine r_iload (pc := 49) 0 dX1_write_49 rfl ?_
  refine r_iconst (pc := 51) dX1_write_51 ci_3 ?_
  refine r_iadd (pc := 52) dX1_write_52 ?_
  refine r_iload (pc := 53) 5 dX1_write_53 rfl ?_
  refine inb_k h (fun b4 h => ?_)
  refine r_iast (pc := 55) (i := 12) ((x1 + 3).toNatClampNeg) (v4) rfl rfl nLX_12 kLX_12 lLX_12 b4 dX1_write_55 ?_
  refine g_bm h (fun m4 em4 h => ?_)
  refine r_aload_n (pc := 56) 1 dX1_write_56 rfl rfl ?_
  refine r_getI (pc := 57) (i := 11) fdRX1_19 nLX_11 kLX_11 (by decide) dX1_write_57 ?_
  refine r_sipush (pc := 60) dX1_write_60 cs_200 ?_
  refine r_icmp_ge (pc := 63) 79 dX1_write_63 (by decide) h (fun c1 h => ?_) (fun c1 h => ?_)
  · refine r_aload_n (pc := 79) 1 dX1_write_79 rfl rfl ?_
    refine r_aload_n (pc := 80) 1 dX1_write_80 rfl rfl ?_
    refine r_getI (pc := 81) (i := 11) fdRX1_15 nLX_11 kLX_11 (by decide) dX1_write_81 ?_
    refine r_iconst (pc := 84) dX1_write_84 ci_1 ?_
    refine r_iadd (pc := 85) dX1_write_85 ?_
    refine r_sipush (pc := 86) dX1_write_86 cs_200 ?_
    refine r_irem (pc := 89) dX1_write_89 (by decide) ?_
    refine r_putI (pc := 90) (i := 11) fpRX1_15 nLX_11 kLX_11 (by decide) rfl rfl dX1_write_90 ?_
    refine g_bm h (fun m5 em5 h => ?_)
    exact r_vret (pc := 93) rfl dX1_write_93 (Option.some.inj h)
  · refine r_aload_n (pc := 66) 1 dX1_write_66 rfl rfl ?_
    refine r_dup (pc := 67) dX1_write_67 rfl ?_
    refine r_getI (pc := 68) (i := 11) fdRX1_19 nLX_11 kLX_11 (by decide) dX1_write_68 ?_
    refine r_iconst (pc := 71) dX1_write_71 ci_1 ?_
    refine r_iadd (pc := 72) dX1_write_72 ?_
    refine r_putI (pc := 73) (i := 11) fpRX1_19 nLX_11 kLX_11 (by decide) rfl rfl dX1_write_73 ?_
    refine g_bm h (fun m6 em6 h => ?_)
    refine r_goto (pc := 76) 93 dX1_write_76 (by decide) ?_
    exact r_vret (pc := 93) rfl dX1_write_93 (Option.some.inj h)
theorem ceX1_write (l : Launch) (d : SD) (σ : Mem) (v1 : Int32) (v2 : Int32) (v3 : Int32) (v4 : Int32)  {r : Mem} (h : fX1_write σ v1 v2 v3 v4 = some r) : Me l d LX yX1_write qX1_write σ [.ref (d.2.2.1 11), .int v1, .int v2, .int v3, .int v4] (none, r) := me_of (avs := fun d => [.ref (d.2.2.1 11), .int v1, .int v2, .int v3, .int v4]) (by decide) rfl (Nat.le_of_ble_eq_true rfl) (fun E => gX1_write E σ v1 v2 v3 v4  h)
def fX1_read (σ : Mem) (v1 : Int32) (v2 : Int32) : Option Int32 :=
  if inb (((((σ 11 1) + v1) - ((σ 11 1) + v1) / 200 * 200) * 4) + v2) 800 = true then
  (some (σ 12 ((((((σ 11 1) + v1) - ((σ 11 1) + v1) / 200 * 200) * 4) + v2).toNatClampNeg)))
  else none
set_option maxHeartbeats 4000000 in
set_option maxRecDepth 20000 in
theorem gX1_read (E : XE) {r : Int32} (σ : Mem) (v1 : Int32) (v2 : Int32)  (h : fX1_read σ v1 v2 = some r) : G E LX qX1_read σ 0 [(0, .ref (xa E 11)), (1, .int v1), (2, .int v2)] [] (some r, σ) := by
  unfold fX1_read at h
  refine r_aload_n (pc := 0) 0 dX1_read_0 rfl rfl ?_
  refine r_getR (pc := 1) (i := 11) (j := 12) fdRX1_9 nLX_11 kLX_11 (by decide) rfl dX1_read_1 ?_
  refine r_aload_n (pc := 4) 0 dX1_read_4 rfl rfl ?_
  refine r_getI (pc := 5) (i := 11) fdRX1_15 nLX_11 kLX_11 (by decide) dX1_read_5 ?_
  refine r_iload_n (pc := 8) 1 dX1_read_8 rfl rfl ?_
  refine r_iadd (pc := 9) dX1_read_9 ?_
  refine r_sipush (pc := 10) dX1_read_10 cs_200 ?_
  refine r_irem (pc := 13) dX1_read_13 (by decide) ?_
  refine r_iconst (pc := 14) dX1_read_14 ci_4 ?_
  refine r_imul (pc := 15) dX1_read_15 ?_
  refine r_iload_n (pc := 16) 2 dX1_read_16 rfl rfl ?_
  refine r_iadd (pc := 17) dX1_read_17 ?_
  refine inb_k h (fun b1 h => ?_)
  refine r_iald (pc := 18) (i := 12) ((((((σ 11 1) + v1) - ((σ 11 1) + v1) / 200 * 200) * 4) + v2).toNatClampNeg) rfl nLX_12 kLX_12 lLX_12 b1 dX1_read_18 ?_
  exact r_iret (pc := 19) rfl dX1_read_19 (Option.some.inj h) rfl
theorem ceX1_read (l : Launch) (d : SD) (σ : Mem) (v1 : Int32) (v2 : Int32)  {r : Int32} (h : fX1_read σ v1 v2 = some r) : Me l d LX yX1_read qX1_read σ [.ref (d.2.2.1 11), .int v1, .int v2] (some r, σ) := me_of (avs := fun d => [.ref (d.2.2.1 11), .int v1, .int v2]) (by decide) rfl (Nat.le_of_ble_eq_true rfl) (fun E => gX1_read E σ v1 v2  h)
def fX9_isWithin (σ : Mem) (v0 : Int32) (v1 : Int32) (v2 : Int32) : Int32 :=
  if v0 < v1 then
    (0)
  else
    (if v2 < v0 then
      (0)
    else
      (1))
set_option maxHeartbeats 4000000 in
set_option maxRecDepth 20000 in
theorem gX9_isWithin (E : XE) {r : Int32} (σ : Mem) (v0 : Int32) (v1 : Int32) (v2 : Int32)  (h : fX9_isWithin σ v0 v1 v2 = r) : G E LX qX9_isWithin σ 0 [(0, .int v0), (1, .int v1), (2, .int v2)] [] (some r, σ) := by
  unfold fX9_isWithin at h
  refine r_iload_n (pc := 0) 0 dX9_isWithin_0 rfl rfl ?_
  refine r_iload_n (pc := 1) 1 dX9_isWithin_1 rfl rfl ?_
  refine r_icmp_lt (pc := 2) 14 dX9_isWithin_2 (by decide) h (fun c1 h => ?_) (fun c1 h => ?_)
  · refine r_iconst (pc := 14) dX9_isWithin_14 ci_0 ?_
    exact r_zret (pc := 15) rfl rfl dX9_isWithin_15 h rfl
  · refine r_iload_n (pc := 5) 0 dX9_isWithin_5 rfl rfl ?_
    refine r_iload_n (pc := 6) 2 dX9_isWithin_6 rfl rfl ?_
    refine r_icmp_gt (pc := 7) 14 dX9_isWithin_7 (by decide) h (fun c2 h => ?_) (fun c2 h => ?_)
    · refine r_iconst (pc := 14) dX9_isWithin_14 ci_0 ?_
      exact r_zret (pc := 15) rfl rfl dX9_isWithin_15 h rfl
    · refine r_iconst (pc := 10) dX9_isWithin_10 ci_1 ?_
      refine r_goto (pc := 11) 15 dX9_isWithin_11 (by decide) ?_
      exact r_zret (pc := 15) rfl rfl dX9_isWithin_15 h rfl
theorem ceX9_isWithin (l : Launch) (d : SD) (σ : Mem) (v0 : Int32) (v1 : Int32) (v2 : Int32)  {r : Int32} (h : fX9_isWithin σ v0 v1 v2 = r) : Me l d LX yX9_isWithin qX9_isWithin σ [.int v0, .int v1, .int v2] (some r, σ) := me_of (avs := fun d => [.int v0, .int v1, .int v2]) (by decide) rfl (Nat.le_of_ble_eq_true rfl) (fun E => gX9_isWithin E σ v0 v1 v2  h)
theorem nbX9_isWithin {σ : Mem} {v0 : Int32} {v1 : Int32} {v2 : Int32} : narrow .boolean (.int (fX9_isWithin σ v0 v1 v2)) = .int (fX9_isWithin σ v0 v1 v2) := by
  unfold fX9_isWithin
  repeat' split
  all_goals rfl
def fX5_isOpen (σ : Mem) (v0 : Nat) (v1 : Int32) : Int32 :=
  if v1 < σ v0 2 then
    (0)
  else
    (if σ v0 3 < v1 then
      (0)
    else
      (1))
set_option maxHeartbeats 4000000 in
set_option maxRecDepth 20000 in
theorem gX5_isOpen (E : XE) {r : Int32} (σ : Mem) (v0 : Nat) (v1 : Int32) (n_v0 : v0 < LX.1) (k_v0 : LX.2.1 v0 = 5) (h : fX5_isOpen σ v0 v1 = r) : G E LX qX5_isOpen σ 0 [(0, .ref (xa E v0)), (1, .int v1)] [] (some r, σ) := by
  unfold fX5_isOpen at h
  refine r_iload_n (pc := 0) 1 dX5_isOpen_0 rfl rfl ?_
  refine r_aload_n (pc := 1) 0 dX5_isOpen_1 rfl rfl ?_
  refine r_getI (pc := 2) (i := v0) fdRX5_15 n_v0 k_v0 (by decide) dX5_isOpen_2 ?_
  refine r_icmp_lt (pc := 5) 20 dX5_isOpen_5 (by decide) h (fun c1 h => ?_) (fun c1 h => ?_)
  · refine r_iconst (pc := 20) dX5_isOpen_20 ci_0 ?_
    exact r_zret (pc := 21) rfl rfl dX5_isOpen_21 h rfl
  · refine r_iload_n (pc := 8) 1 dX5_isOpen_8 rfl rfl ?_
    refine r_aload_n (pc := 9) 0 dX5_isOpen_9 rfl rfl ?_
    refine r_getI (pc := 10) (i := v0) fdRX5_19 n_v0 k_v0 (by decide) dX5_isOpen_10 ?_
    refine r_icmp_gt (pc := 13) 20 dX5_isOpen_13 (by decide) h (fun c2 h => ?_) (fun c2 h => ?_)
    · refine r_iconst (pc := 20) dX5_isOpen_20 ci_0 ?_
      exact r_zret (pc := 21) rfl rfl dX5_isOpen_21 h rfl
    · refine r_iconst (pc := 16) dX5_isOpen_16 ci_1 ?_
      refine r_goto (pc := 17) 21 dX5_isOpen_17 (by decide) ?_
      exact r_zret (pc := 21) rfl rfl dX5_isOpen_21 h rfl
theorem ceX5_isOpen (l : Launch) (d : SD) (σ : Mem) (v0 : Nat) (v1 : Int32) (n_v0 : v0 < LX.1) (k_v0 : LX.2.1 v0 = 5) {r : Int32} (h : fX5_isOpen σ v0 v1 = r) : Me l d LX yX5_isOpen qX5_isOpen σ [.ref (d.2.2.1 v0), .int v1] (some r, σ) := me_of (avs := fun d => [.ref (d.2.2.1 v0), .int v1]) (by decide) rfl (Nat.le_of_ble_eq_true rfl) (fun E => gX5_isOpen E σ v0 v1 n_v0 k_v0 h)
theorem nbX5_isOpen {σ : Mem} {v0 : Nat} {v1 : Int32} : narrow .boolean (.int (fX5_isOpen σ v0 v1)) = .int (fX5_isOpen σ v0 v1) := by
  unfold fX5_isOpen
  repeat' split
  all_goals rfl
def fX5_serves (σ : Mem) (v0 : Nat) (v1 : Int32) : Int32 :=
  if σ v0 1 = 0 then
    (1)
  else
    if σ v0 1 = 1 then
    (if v1 < 2 then
      (0)
    else
      (1))
  else
    if σ v0 1 = 2 then
    (if v1 = 0 then
      (1)
    else
      (0))
  else
    if σ v0 1 = 3 then
    (if v1 = 1 then
      (1)
    else
      (0))
  else
    (if v1 - 2 = (σ v0 1) - 4 then
    (1)
  else
    (0))
set_option maxHeartbeats 4000000 in
set_option maxRecDepth 20000 in
theorem gX5_serves (E : XE) {r : Int32} (σ : Mem) (v0 : Nat) (v1 : Int32) (n_v0 : v0 < LX.1) (k_v0 : LX.2.1 v0 = 5) (h : fX5_serves σ v0 v1 = r) : G E LX qX5_serves σ 0 [(0, .ref (xa E v0)), (1, .int v1)] [] (some r, σ) := by
  unfold fX5_serves at h
  refine r_aload_n (pc := 0) 0 dX5_serves_0 rfl rfl ?_
  refine r_getI (pc := 1) (i := v0) fdRX5_35 n_v0 k_v0 (by decide) dX5_serves_1 ?_
  refine ite_k h (fun c1 h => ?_) (fun c1 h => ?_)
  · refine r_tabIn (pc := 4) (off := 32) 36 c1 dX5_serves_4 (by decide) (by decide) (by decide) (by decide) ?_
    refine r_iconst (pc := 36) dX5_serves_36 ci_1 ?_
    exact r_zret (pc := 37) rfl rfl dX5_serves_37 h rfl
  refine ite_k h (fun c2 h => ?_) (fun c2 h => ?_)
  · refine r_tabIn (pc := 4) (off := 34) 38 c2 dX5_serves_4 (by decide) (by decide) (by decide) (by decide) ?_
    refine r_iload_n (pc := 38) 1 dX5_serves_38 rfl rfl ?_
    refine r_iconst (pc := 39) dX5_serves_39 ci_2 ?_
    refine r_icmp_lt (pc := 40) 47 dX5_serves_40 (by decide) h (fun c3 h => ?_) (fun c3 h => ?_)
    · refine r_iconst (pc := 47) dX5_serves_47 ci_0 ?_
      exact r_zret (pc := 48) rfl rfl dX5_serves_48 h rfl
    · refine r_iconst (pc := 43) dX5_serves_43 ci_1 ?_
      refine r_goto (pc := 44) 48 dX5_serves_44 (by decide) ?_
      exact r_zret (pc := 48) rfl rfl dX5_serves_48 h rfl
  refine ite_k h (fun c4 h => ?_) (fun c4 h => ?_)
  · refine r_tabIn (pc := 4) (off := 45) 49 c4 dX5_serves_4 (by decide) (by decide) (by decide) (by decide) ?_
    refine r_iload_n (pc := 49) 1 dX5_serves_49 rfl rfl ?_
    refine r_if_ne (pc := 50) 57 dX5_serves_50 (by decide) h (fun c5 h => ?_) (fun c5 h => ?_)
    · refine r_iconst (pc := 53) dX5_serves_53 ci_1 ?_
      refine r_goto (pc := 54) 58 dX5_serves_54 (by decide) ?_
      exact r_zret (pc := 58) rfl rfl dX5_serves_58 h rfl
    · refine r_iconst (pc := 57) dX5_serves_57 ci_0 ?_
      exact r_zret (pc := 58) rfl rfl dX5_serves_58 h rfl
  refine ite_k h (fun c6 h => ?_) (fun c6 h => ?_)
  · refine r_tabIn (pc := 4) (off := 55) 59 c6 dX5_serves_4 (by decide) (by decide) (by decide) (by decide) ?_
    refine r_iload_n (pc := 59) 1 dX5_serves_59 rfl rfl ?_
    refine r_iconst (pc := 60) dX5_serves_60 ci_1 ?_
    refine r_icmp_ne (pc := 61) 68 dX5_serves_61 (by decide) h (fun c7 h => ?_) (fun c7 h => ?_)
    · refine r_iconst (pc := 64) dX5_serves_64 ci_1 ?_
      refine r_goto (pc := 65) 69 dX5_serves_65 (by decide) ?_
      exact r_zret (pc := 69) rfl rfl dX5_serves_69 h rfl
    · refine r_iconst (pc := 68) dX5_serves_68 ci_0 ?_
      exact r_zret (pc := 69) rfl rfl dX5_serves_69 h rfl
  refine r_tabOut (pc := 4) 70 dX5_serves_4 (by have ec1 := ti_ne (z := 0) c1 (by decide); have ec2 := ti_ne (z := 1) c2 (by decide); have ec4 := ti_ne (z := 2) c4 (by decide); have ec6 := ti_ne (z := 3) c6 (by decide); omega) (by decide) ?_
  refine r_iload_n (pc := 70) 1 dX5_serves_70 rfl rfl ?_
  refine r_iconst (pc := 71) dX5_serves_71 ci_2 ?_
  refine r_isub (pc := 72) dX5_serves_72 ?_
  refine r_aload_n (pc := 73) 0 dX5_serves_73 rfl rfl ?_
  refine r_getI (pc := 74) (i := v0) fdRX5_35 n_v0 k_v0 (by decide) dX5_serves_74 ?_
  refine r_iconst (pc := 77) dX5_serves_77 ci_4 ?_
  refine r_isub (pc := 78) dX5_serves_78 ?_
  refine r_icmp_ne (pc := 79) 86 dX5_serves_79 (by decide) h (fun c8 h => ?_) (fun c8 h => ?_)
  · refine r_iconst (pc := 82) dX5_serves_82 ci_1 ?_
    refine r_goto (pc := 83) 87 dX5_serves_83 (by decide) ?_
    exact r_zret (pc := 87) rfl rfl dX5_serves_87 h rfl
  · refine r_iconst (pc := 86) dX5_serves_86 ci_0 ?_
    exact r_zret (pc := 87) rfl rfl dX5_serves_87 h rfl
theorem ceX5_serves (l : Launch) (d : SD) (σ : Mem) (v0 : Nat) (v1 : Int32) (n_v0 : v0 < LX.1) (k_v0 : LX.2.1 v0 = 5) {r : Int32} (h : fX5_serves σ v0 v1 = r) : Me l d LX yX5_serves qX5_serves σ [.ref (d.2.2.1 v0), .int v1] (some r, σ) := me_of (avs := fun d => [.ref (d.2.2.1 v0), .int v1]) (by decide) rfl (Nat.le_of_ble_eq_true rfl) (fun E => gX5_serves E σ v0 v1 n_v0 k_v0 h)
theorem nbX5_serves {σ : Mem} {v0 : Nat} {v1 : Int32} : narrow .boolean (.int (fX5_serves σ v0 v1)) = .int (fX5_serves σ v0 v1) := by
  unfold fX5_serves
  repeat' split
  all_goals rfl
def fX5_canPay (σ : Mem) (v0 : Nat) (v1 : Int32) (v2 : Int32) : Int32 :=
  if σ v0 6 ≤ 0 then
    (0)
  else
    (if fX5_isOpen σ v0 v2 = 0 then
      (0)
    else
      (if fX5_serves σ v0 v1 = 0 then
        (0)
      else
        (1)))
set_option maxHeartbeats 4000000 in
set_option maxRecDepth 20000 in
theorem gX5_canPay (E : XE) {r : Int32} (σ : Mem) (v0 : Nat) (v1 : Int32) (v2 : Int32) (n_v0 : v0 < LX.1) (k_v0 : LX.2.1 v0 = 5) (h : fX5_canPay σ v0 v1 v2 = r) : G E LX qX5_canPay σ 0 [(0, .ref (xa E v0)), (1, .int v1), (2, .int v2)] [] (some r, σ) := by
  unfold fX5_canPay at h
  refine r_aload_n (pc := 0) 0 dX5_canPay_0 rfl rfl ?_
  refine r_getI (pc := 1) (i := v0) fdRX5_29 n_v0 k_v0 (by decide) dX5_canPay_1 ?_
  refine r_if_le (pc := 4) 27 dX5_canPay_4 (by decide) h (fun c1 h => ?_) (fun c1 h => ?_)
  · refine r_iconst (pc := 27) dX5_canPay_27 ci_0 ?_
    exact r_zret (pc := 28) rfl rfl dX5_canPay_28 h rfl
  · refine r_aload_n (pc := 7) 0 dX5_canPay_7 rfl rfl ?_
    refine r_iload_n (pc := 8) 2 dX5_canPay_8 rfl rfl ?_
    refine r_callV (pc := 9) (i := v0) (As := [.int v2]) (rest := []) lkRX5_25 (ceX5_isOpen _ _ σ v0 v2 n_v0 k_v0 rfl) n_v0 k_v0 (by decide) rfl ⟨Nat.le_of_ble_eq_true rfl, Nat.le_of_ble_eq_true rfl⟩ rfl rfl (Nat.le_of_ble_eq_true rfl) dX5_canPay_9 rfl ?_
    refine r_if_eq (pc := 12) 27 dX5_canPay_12 (by decide) h (fun c2 h => ?_) (fun c2 h => ?_)
    · refine r_iconst (pc := 27) dX5_canPay_27 ci_0 ?_
      exact r_zret (pc := 28) rfl rfl dX5_canPay_28 h rfl
    · refine r_aload_n (pc := 15) 0 dX5_canPay_15 rfl rfl ?_
      refine r_iload_n (pc := 16) 1 dX5_canPay_16 rfl rfl ?_
      refine r_callV (pc := 17) (i := v0) (As := [.int v1]) (rest := []) lkRX5_32 (ceX5_serves _ _ σ v0 v1 n_v0 k_v0 rfl) n_v0 k_v0 (by decide) rfl ⟨Nat.le_of_ble_eq_true rfl, Nat.le_of_ble_eq_true rfl⟩ rfl rfl (Nat.le_of_ble_eq_true rfl) dX5_canPay_17 rfl ?_
      refine r_if_eq (pc := 20) 27 dX5_canPay_20 (by decide) h (fun c3 h => ?_) (fun c3 h => ?_)
      · refine r_iconst (pc := 27) dX5_canPay_27 ci_0 ?_
        exact r_zret (pc := 28) rfl rfl dX5_canPay_28 h rfl
      · refine r_iconst (pc := 23) dX5_canPay_23 ci_1 ?_
        refine r_goto (pc := 24) 28 dX5_canPay_24 (by decide) ?_
        exact r_zret (pc := 28) rfl rfl dX5_canPay_28 h rfl
theorem ceX5_canPay (l : Launch) (d : SD) (σ : Mem) (v0 : Nat) (v1 : Int32) (v2 : Int32) (n_v0 : v0 < LX.1) (k_v0 : LX.2.1 v0 = 5) {r : Int32} (h : fX5_canPay σ v0 v1 v2 = r) : Me l d LX yX5_canPay qX5_canPay σ [.ref (d.2.2.1 v0), .int v1, .int v2] (some r, σ) := me_of (avs := fun d => [.ref (d.2.2.1 v0), .int v1, .int v2]) (by decide) rfl (Nat.le_of_ble_eq_true rfl) (fun E => gX5_canPay E σ v0 v1 v2 n_v0 k_v0 h)
theorem nbX5_canPay {σ : Mem} {v0 : Nat} {v1 : Int32} {v2 : Int32} : narrow .boolean (.int (fX5_canPay σ v0 v1 v2)) = .int (fX5_canPay σ v0 v1 v2) := by
  unfold fX5_canPay
  repeat' split
  all_goals rfl
def fX5_breadth (σ : Mem) (v0 : Nat) : Int32 :=
  if σ v0 1 = 0 then
    (4)
  else
    if σ v0 1 = 1 then
    (1)
  else
    if σ v0 1 = 2 then
    (2)
  else
    if σ v0 1 = 3 then
    (3)
  else
    (0)
set_option maxHeartbeats 4000000 in
set_option maxRecDepth 20000 in
theorem gX5_breadth (E : XE) {r : Int32} (σ : Mem) (v0 : Nat) (n_v0 : v0 < LX.1) (k_v0 : LX.2.1 v0 = 5) (h : fX5_breadth σ v0 = r) : G E LX qX5_breadth σ 0 [(0, .ref (xa E v0))] [] (some r, σ) := by
  unfold fX5_breadth at h
  refine r_aload_n (pc := 0) 0 dX5_breadth_0 rfl rfl ?_
  refine r_getI (pc := 1) (i := v0) fdRX5_35 n_v0 k_v0 (by decide) dX5_breadth_1 ?_
  refine ite_k h (fun c1 h => ?_) (fun c1 h => ?_)
  · refine r_tabIn (pc := 4) (off := 32) 36 c1 dX5_breadth_4 (by decide) (by decide) (by decide) (by decide) ?_
    refine r_iconst (pc := 36) dX5_breadth_36 ci_4 ?_
    exact r_iret (pc := 37) rfl dX5_breadth_37 h rfl
  refine ite_k h (fun c2 h => ?_) (fun c2 h => ?_)
  · refine r_tabIn (pc := 4) (off := 38) 42 c2 dX5_breadth_4 (by decide) (by decide) (by decide) (by decide) ?_
    refine r_iconst (pc := 42) dX5_breadth_42 ci_1 ?_
    exact r_iret (pc := 43) rfl dX5_breadth_43 h rfl
  refine ite_k h (fun c3 h => ?_) (fun c3 h => ?_)
  · refine r_tabIn (pc := 4) (off := 36) 40 c3 dX5_breadth_4 (by decide) (by decide) (by decide) (by decide) ?_
    refine r_iconst (pc := 40) dX5_breadth_40 ci_2 ?_
    exact r_iret (pc := 41) rfl dX5_breadth_41 h rfl
  refine ite_k h (fun c4 h => ?_) (fun c4 h => ?_)
  · refine r_tabIn (pc := 4) (off := 34) 38 c4 dX5_breadth_4 (by decide) (by decide) (by decide) (by decide) ?_
    refine r_iconst (pc := 38) dX5_breadth_38 ci_3 ?_
    exact r_iret (pc := 39) rfl dX5_breadth_39 h rfl
  refine r_tabOut (pc := 4) 44 dX5_breadth_4 (by have ec1 := ti_ne (z := 0) c1 (by decide); have ec2 := ti_ne (z := 1) c2 (by decide); have ec3 := ti_ne (z := 2) c3 (by decide); have ec4 := ti_ne (z := 3) c4 (by decide); omega) (by decide) ?_
  refine r_iconst (pc := 44) dX5_breadth_44 ci_0 ?_
  exact r_iret (pc := 45) rfl dX5_breadth_45 h rfl
theorem ceX5_breadth (l : Launch) (d : SD) (σ : Mem) (v0 : Nat) (n_v0 : v0 < LX.1) (k_v0 : LX.2.1 v0 = 5) {r : Int32} (h : fX5_breadth σ v0 = r) : Me l d LX yX5_breadth qX5_breadth σ [.ref (d.2.2.1 v0)] (some r, σ) := me_of (avs := fun d => [.ref (d.2.2.1 v0)]) (by decide) rfl (Nat.le_of_ble_eq_true rfl) (fun E => gX5_breadth E σ v0 n_v0 k_v0 h)
def fX5_paysAheadOf (σ : Mem) (v0 : Nat) (v1 : Nat) : Int32 :=
  if fX5_breadth σ v0 < fX5_breadth σ v1 then
    (1)
  else
    (if fX5_breadth σ v0 = fX5_breadth σ v1 then
      (if σ v1 3 ≤ σ v0 3 then
        (0)
      else
        (1))
    else
      (0))
set_option maxHeartbeats 4000000 in
set_option maxRecDepth 20000 in
theorem gX5_paysAheadOf (E : XE) {r : Int32} (σ : Mem) (v0 : Nat) (v1 : Nat) (n_v0 : v0 < LX.1) (k_v0 : LX.2.1 v0 = 5) (n_v1 : v1 < LX.1) (k_v1 : LX.2.1 v1 = 5) (h : fX5_paysAheadOf σ v0 v1 = r) : G E LX qX5_paysAheadOf σ 0 [(0, .ref (xa E v0)), (1, .ref (xa E v1))] [] (some r, σ) := by
  unfold fX5_paysAheadOf at h
  refine r_aload_n (pc := 0) 0 dX5_paysAheadOf_0 rfl rfl ?_
  refine r_callV (pc := 1) (i := v0) (As := []) (rest := []) lkRX5_38 (ceX5_breadth _ _ σ v0 n_v0 k_v0 rfl) n_v0 k_v0 (by decide) rfl ⟨Nat.le_of_ble_eq_true rfl, Nat.le_of_ble_eq_true rfl⟩ rfl rfl (Nat.le_of_ble_eq_true rfl) dX5_paysAheadOf_1 rfl ?_
  refine r_aload_n (pc := 4) 1 dX5_paysAheadOf_4 rfl rfl ?_
  refine r_callV (pc := 5) (i := v1) (As := []) (rest := [.int (fX5_breadth σ v0)]) lkRX5_38 (ceX5_breadth _ _ σ v1 n_v1 k_v1 rfl) n_v1 k_v1 (by decide) rfl ⟨Nat.le_of_ble_eq_true rfl, Nat.le_of_ble_eq_true rfl⟩ rfl rfl (Nat.le_of_ble_eq_true rfl) dX5_paysAheadOf_5 rfl ?_
  refine r_icmp_lt (pc := 8) 33 dX5_paysAheadOf_8 (by decide) h (fun c1 h => ?_) (fun c1 h => ?_)
  · refine r_iconst (pc := 33) dX5_paysAheadOf_33 ci_1 ?_
    refine r_goto (pc := 34) 38 dX5_paysAheadOf_34 (by decide) ?_
    exact r_zret (pc := 38) rfl rfl dX5_paysAheadOf_38 h rfl
  · refine r_aload_n (pc := 11) 0 dX5_paysAheadOf_11 rfl rfl ?_
    refine r_callV (pc := 12) (i := v0) (As := []) (rest := []) lkRX5_38 (ceX5_breadth _ _ σ v0 n_v0 k_v0 rfl) n_v0 k_v0 (by decide) rfl ⟨Nat.le_of_ble_eq_true rfl, Nat.le_of_ble_eq_true rfl⟩ rfl rfl (Nat.le_of_ble_eq_true rfl) dX5_paysAheadOf_12 rfl ?_
    refine r_aload_n (pc := 15) 1 dX5_paysAheadOf_15 rfl rfl ?_
    refine r_callV (pc := 16) (i := v1) (As := []) (rest := [.int (fX5_breadth σ v0)]) lkRX5_38 (ceX5_breadth _ _ σ v1 n_v1 k_v1 rfl) n_v1 k_v1 (by decide) rfl ⟨Nat.le_of_ble_eq_true rfl, Nat.le_of_ble_eq_true rfl⟩ rfl rfl (Nat.le_of_ble_eq_true rfl) dX5_paysAheadOf_16 rfl ?_
    refine r_icmp_ne (pc := 19) 37 dX5_paysAheadOf_19 (by decide) h (fun c2 h => ?_) (fun c2 h => ?_)
    · refine r_aload_n (pc := 22) 0 dX5_paysAheadOf_22 rfl rfl ?_
      refine r_getI (pc := 23) (i := v0) fdRX5_19 n_v0 k_v0 (by decide) dX5_paysAheadOf_23 ?_
      refine r_aload_n (pc := 26) 1 dX5_paysAheadOf_26 rfl rfl ?_
      refine r_getI (pc := 27) (i := v1) fdRX5_19 n_v1 k_v1 (by decide) dX5_paysAheadOf_27 ?_
      refine r_icmp_ge (pc := 30) 37 dX5_paysAheadOf_30 (by decide) h (fun c3 h => ?_) (fun c3 h => ?_)
      · refine r_iconst (pc := 37) dX5_paysAheadOf_37 ci_0 ?_
        exact r_zret (pc := 38) rfl rfl dX5_paysAheadOf_38 h rfl
      · refine r_iconst (pc := 33) dX5_paysAheadOf_33 ci_1 ?_
        refine r_goto (pc := 34) 38 dX5_paysAheadOf_34 (by decide) ?_
        exact r_zret (pc := 38) rfl rfl dX5_paysAheadOf_38 h rfl
    · refine r_iconst (pc := 37) dX5_paysAheadOf_37 ci_0 ?_
      exact r_zret (pc := 38) rfl rfl dX5_paysAheadOf_38 h rfl
theorem ceX5_paysAheadOf (l : Launch) (d : SD) (σ : Mem) (v0 : Nat) (v1 : Nat) (n_v0 : v0 < LX.1) (k_v0 : LX.2.1 v0 = 5) (n_v1 : v1 < LX.1) (k_v1 : LX.2.1 v1 = 5) {r : Int32} (h : fX5_paysAheadOf σ v0 v1 = r) : Me l d LX yX5_paysAheadOf qX5_paysAheadOf σ [.ref (d.2.2.1 v0), .ref (d.2.2.1 v1)] (some r, σ) := me_of (avs := fun d => [.ref (d.2.2.1 v0), .ref (d.2.2.1 v1)]) (by decide) rfl (Nat.le_of_ble_eq_true rfl) (fun E => gX5_paysAheadOf E σ v0 v1 n_v0 k_v0 n_v1 k_v1 h)
theorem nbX5_paysAheadOf {σ : Mem} {v0 : Nat} {v1 : Nat} : narrow .boolean (.int (fX5_paysAheadOf σ v0 v1)) = .int (fX5_paysAheadOf σ v0 v1) := by
  unfold fX5_paysAheadOf
  repeat' split
  all_goals rfl
def fX5_isDue (σ : Mem) (v0 : Nat) (v1 : Int32) : Int32 :=
  if v1 = σ v0 2 then
    (1)
  else
    (if σ v0 5 = 1 then
      (if fX5_isOpen σ v0 v1 = 0 then
        (0)
      else
        (1))
    else
      (0))
set_option maxHeartbeats 4000000 in
set_option maxRecDepth 20000 in
theorem gX5_isDue (E : XE) {r : Int32} (σ : Mem) (v0 : Nat) (v1 : Int32) (n_v0 : v0 < LX.1) (k_v0 : LX.2.1 v0 = 5) (h : fX5_isDue σ v0 v1 = r) : G E LX qX5_isDue σ 0 [(0, .ref (xa E v0)), (1, .int v1)] [] (some r, σ) := by
  unfold fX5_isDue at h
  refine r_iload_n (pc := 0) 1 dX5_isDue_0 rfl rfl ?_
  refine r_aload_n (pc := 1) 0 dX5_isDue_1 rfl rfl ?_
  refine r_getI (pc := 2) (i := v0) fdRX5_15 n_v0 k_v0 (by decide) dX5_isDue_2 ?_
  refine r_icmp_eq (pc := 5) 24 dX5_isDue_5 (by decide) h (fun c1 h => ?_) (fun c1 h => ?_)
  · refine r_iconst (pc := 24) dX5_isDue_24 ci_1 ?_
    refine r_goto (pc := 25) 29 dX5_isDue_25 (by decide) ?_
    exact r_zret (pc := 29) rfl rfl dX5_isDue_29 h rfl
  · refine r_aload_n (pc := 8) 0 dX5_isDue_8 rfl rfl ?_
    refine r_getI (pc := 9) (i := v0) fdRX5_22 n_v0 k_v0 (by decide) dX5_isDue_9 ?_
    refine r_iconst (pc := 12) dX5_isDue_12 ci_1 ?_
    refine r_icmp_ne (pc := 13) 28 dX5_isDue_13 (by decide) h (fun c2 h => ?_) (fun c2 h => ?_)
    · refine r_aload_n (pc := 16) 0 dX5_isDue_16 rfl rfl ?_
      refine r_iload_n (pc := 17) 1 dX5_isDue_17 rfl rfl ?_
      refine r_callV (pc := 18) (i := v0) (As := [.int v1]) (rest := []) lkRX5_25 (ceX5_isOpen _ _ σ v0 v1 n_v0 k_v0 rfl) n_v0 k_v0 (by decide) rfl ⟨Nat.le_of_ble_eq_true rfl, Nat.le_of_ble_eq_true rfl⟩ rfl rfl (Nat.le_of_ble_eq_true rfl) dX5_isDue_18 rfl ?_
      refine r_if_eq (pc := 21) 28 dX5_isDue_21 (by decide) h (fun c3 h => ?_) (fun c3 h => ?_)
      · refine r_iconst (pc := 28) dX5_isDue_28 ci_0 ?_
        exact r_zret (pc := 29) rfl rfl dX5_isDue_29 h rfl
      · refine r_iconst (pc := 24) dX5_isDue_24 ci_1 ?_
        refine r_goto (pc := 25) 29 dX5_isDue_25 (by decide) ?_
        exact r_zret (pc := 29) rfl rfl dX5_isDue_29 h rfl
    · refine r_iconst (pc := 28) dX5_isDue_28 ci_0 ?_
      exact r_zret (pc := 29) rfl rfl dX5_isDue_29 h rfl
theorem ceX5_isDue (l : Launch) (d : SD) (σ : Mem) (v0 : Nat) (v1 : Int32) (n_v0 : v0 < LX.1) (k_v0 : LX.2.1 v0 = 5) {r : Int32} (h : fX5_isDue σ v0 v1 = r) : Me l d LX yX5_isDue qX5_isDue σ [.ref (d.2.2.1 v0), .int v1] (some r, σ) := me_of (avs := fun d => [.ref (d.2.2.1 v0), .int v1]) (by decide) rfl (Nat.le_of_ble_eq_true rfl) (fun E => gX5_isDue E σ v0 v1 n_v0 k_v0 h)
theorem nbX5_isDue {σ : Mem} {v0 : Nat} {v1 : Int32} : narrow .boolean (.int (fX5_isDue σ v0 v1)) = .int (fX5_isDue σ v0 v1) := by
  unfold fX5_isDue
  repeat' split
  all_goals rfl
def fX5_receive (σ : Mem) (v0 : Nat) (v1 : Int32) : Option Mem :=
  bm (mset σ v0 6 ((σ v0 6) + v1)) (fun m1 =>
  bm (mset m1 v0 7 ((m1 v0 7) + v1)) (fun m2 =>
  some m2))
set_option maxHeartbeats 4000000 in
set_option maxRecDepth 20000 in
theorem gX5_receive (E : XE) {r : Mem} (σ : Mem) (v0 : Nat) (v1 : Int32) (n_v0 : v0 < LX.1) (k_v0 : LX.2.1 v0 = 5) (h : fX5_receive σ v0 v1 = some r) : G E LX qX5_receive σ 0 [(0, .ref (xa E v0)), (1, .int v1)] [] (none, r) := by
  unfold fX5_receive at h
  refine r_aload_n (pc := 0) 0 dX5_receive_0 rfl rfl ?_
  refine r_dup (pc := 1) dX5_receive_1 rfl ?_
  refine r_getI (pc := 2) (i := v0) fdRX5_29 n_v0 k_v0 (by decide) dX5_receive_2 ?_
  refine r_iload_n (pc := 5) 1 dX5_receive_5 rfl rfl ?_
  refine r_iadd (pc := 6) dX5_receive_6 ?_
  refine r_putI (pc := 7) (i := v0) fpRX5_29 n_v0 k_v0 (by decide) rfl rfl dX5_receive_7 ?_
  refine g_bm h (fun m1 em1 h => ?_)
  refine r_aload_n (pc := 10) 0 dX5_receive_10 rfl rfl ?_
  refine r_dup (pc := 11) dX5_receive_11 rfl ?_
  refine r_getI (pc := 12) (i := v0) fdRX5_42 n_v0 k_v0 (by decide) dX5_receive_12 ?_
  refine r_iload_n (pc := 15) 1 dX5_receive_15 rfl rfl ?_
  refine r_iadd (pc := 16) dX5_receive_16 ?_
  refine r_putI (pc := 17) (i := v0) fpRX5_42 n_v0 k_v0 (by decide) rfl rfl dX5_receive_17 ?_
  refine g_bm h (fun m2 em2 h => ?_)
  exact r_vret (pc := 20) rfl dX5_receive_20 (Option.some.inj h)
theorem ceX5_receive (l : Launch) (d : SD) (σ : Mem) (v0 : Nat) (v1 : Int32) (n_v0 : v0 < LX.1) (k_v0 : LX.2.1 v0 = 5) {r : Mem} (h : fX5_receive σ v0 v1 = some r) : Me l d LX yX5_receive qX5_receive σ [.ref (d.2.2.1 v0), .int v1] (none, r) := me_of (avs := fun d => [.ref (d.2.2.1 v0), .int v1]) (by decide) rfl (Nat.le_of_ble_eq_true rfl) (fun E => gX5_receive E σ v0 v1 n_v0 k_v0 h)
def fX5_pay (σ : Mem) (v0 : Nat) (v1 : Int32) (v2 : Int32) : Option Mem :=
  bm (mset σ v0 6 ((σ v0 6) - v2)) (fun m1 =>
  if inb v1 12 = true then
  (if inb v1 12 = true then
  (bm (mset m1 (rfX v0 0) v1.toNatClampNeg ((m1 (rfX v0 0) v1.toNatClampNeg) + v2)) (fun m2 =>
  some m2))
  else none)
  else none)
set_option maxHeartbeats 4000000 in
set_option maxRecDepth 20000 in
theorem gX5_pay (E : XE) {r : Mem} (σ : Mem) (v0 : Nat) (v1 : Int32) (v2 : Int32) (n_v0 : v0 < LX.1) (k_v0 : LX.2.1 v0 = 5) (h : fX5_pay σ v0 v1 v2 = some r) : G E LX qX5_pay σ 0 [(0, .ref (xa E v0)), (1, .int v1), (2, .int v2)] [] (none, r) := by
  unfold fX5_pay at h
  refine r_aload_n (pc := 0) 0 dX5_pay_0 rfl rfl ?_
  refine r_dup (pc := 1) dX5_pay_1 rfl ?_
  refine r_getI (pc := 2) (i := v0) fdRX5_29 n_v0 k_v0 (by decide) dX5_pay_2 ?_
  refine r_iload_n (pc := 5) 2 dX5_pay_5 rfl rfl ?_
  refine r_isub (pc := 6) dX5_pay_6 ?_
  refine r_putI (pc := 7) (i := v0) fpRX5_29 n_v0 k_v0 (by decide) rfl rfl dX5_pay_7 ?_
  refine g_bm h (fun m1 em1 h => ?_)
  refine r_aload_n (pc := 10) 0 dX5_pay_10 rfl rfl ?_
  refine r_getR (pc := 11) (i := v0) (j := rfX v0 0) fdRX5_9 n_v0 k_v0 (by decide) rfl dX5_pay_11 ?_
  refine r_iload_n (pc := 14) 1 dX5_pay_14 rfl rfl ?_
  refine r_dup2 (pc := 15) dX5_pay_15 rfl rfl ?_
  refine inb_k h (fun b1 h => ?_)
  refine r_iald (pc := 16) (i := rfX v0 0) (v1.toNatClampNeg) rfl (rlLX_5_0 n_v0 k_v0).1 (rlLX_5_0 n_v0 k_v0).2.1 (rlLX_5_0 n_v0 k_v0).2.2 b1 dX5_pay_16 ?_
  refine r_iload_n (pc := 17) 2 dX5_pay_17 rfl rfl ?_
  refine r_iadd (pc := 18) dX5_pay_18 ?_
  refine inb_k h (fun b2 h => ?_)
  refine r_iast (pc := 19) (i := rfX v0 0) (v1.toNatClampNeg) ((m1 (rfX v0 0) v1.toNatClampNeg) + v2) rfl rfl (rlLX_5_0 n_v0 k_v0).1 (rlLX_5_0 n_v0 k_v0).2.1 (rlLX_5_0 n_v0 k_v0).2.2 b2 dX5_pay_19 ?_
  refine g_bm h (fun m2 em2 h => ?_)
  exact r_vret (pc := 20) rfl dX5_pay_20 (Option.some.inj h)
theorem ceX5_pay (l : Launch) (d : SD) (σ : Mem) (v0 : Nat) (v1 : Int32) (v2 : Int32) (n_v0 : v0 < LX.1) (k_v0 : LX.2.1 v0 = 5) {r : Mem} (h : fX5_pay σ v0 v1 v2 = some r) : Me l d LX yX5_pay qX5_pay σ [.ref (d.2.2.1 v0), .int v1, .int v2] (none, r) := me_of (avs := fun d => [.ref (d.2.2.1 v0), .int v1, .int v2]) (by decide) rfl (Nat.le_of_ble_eq_true rfl) (fun E => gX5_pay E σ v0 v1 v2 n_v0 k_v0 h)
def fX5_lapse (σ : Mem) (v0 : Nat) : Option (Int32 × Mem) :=
  bi (σ v0 6) (fun x1 =>
  bm (mset σ v0 6 0) (fun m1 =>
  bm (mset m1 v0 8 ((m1 v0 8) + x1)) (fun m2 =>
  some (x1, m2))))
set_option maxHeartbeats 4000000 in
set_option maxRecDepth 20000 in
theorem gX5_lapse (E : XE) {r : Int32 × Mem} (σ : Mem) (v0 : Nat) (n_v0 : v0 < LX.1) (k_v0 : LX.2.1 v0 = 5) (h : fX5_lapse σ v0 = some r) : G E LX qX5_lapse σ 0 [(0, .ref (xa E v0))] [] (some r.1, r.2) := by
  unfold fX5_lapse at h
  refine r_aload_n (pc := 0) 0 dX5_lapse_0 rfl rfl ?_
  refine r_getI (pc := 1) (i := v0) fdRX5_29 n_v0 k_v0 (by decide) dX5_lapse_1 ?_
  refine g_bi h (fun x1 ex1 h => ?_)
  refine r_istore_n (pc := 4) (lv' := [(1, .int x1), (0, .ref (xa E v0))]) dX5_lapse_4 rfl (Nat.le_of_ble_eq_true rfl) rfl ?_
  refine r_aload_n (pc := 5) 1 dX5_lapse_5 rfl rfl ?_
  refine r_iconst (pc := 6) dX5_lapse_6 ci_0 ?_
  refine r_putI (pc := 7) (i := v0) fpRX5_29 n_v0 k_v0 (by decide) rfl rfl dX5_lapse_7 ?_
  refine g_bm h (fun m1 em1 h => ?_)
  refine r_aload_n (pc := 10) 1 dX5_lapse_10 rfl rfl ?_
  refine r_dup (pc := 11) dX5_lapse_11 rfl ?_
  refine r_getI (pc := 12) (i := v0) fdRX5_45 n_v0 k_v0 (by decide) dX5_lapse_12 ?_
  refine r_iload_n (pc := 15) 0 dX5_lapse_15 rfl rfl ?_
  refine r_iadd (pc := 16) dX5_lapse_16 ?_
  refine r_putI (pc := 17) (i := v0) fpRX5_45 n_v0 k_v0 (by decide) rfl rfl dX5_lapse_17 ?_
  refine g_bm h (fun m2 em2 h => ?_)
  refine r_iload_n (pc := 20) 0 dX5_lapse_20 rfl rfl ?_
  exact r_iretW (pc := 21) rfl dX5_lapse_21 h
theorem ceX5_lapse (l : Launch) (d : SD) (σ : Mem) (v0 : Nat) (n_v0 : v0 < LX.1) (k_v0 : LX.2.1 v0 = 5) {r : Int32 × Mem} (h : fX5_lapse σ v0 = some r) : Me l d LX yX5_lapse qX5_lapse σ [.ref (d.2.2.1 v0)] (some r.1, r.2) := me_of (avs := fun d => [.ref (d.2.2.1 v0)]) (by decide) rfl (Nat.le_of_ble_eq_true rfl) (fun E => gX5_lapse E σ v0 n_v0 k_v0 h)
def fX6_add (σ : Mem) (v1 : Int32) (v2 : Int32) (v3 : Int32) : Option Mem :=
  if inb ((v1 * 7) + v2) 1407 = true then
  (if inb ((v1 * 7) + v2) 1407 = true then
  (bm (mset σ 14 (((v1 * 7) + v2).toNatClampNeg) ((σ 14 (((v1 * 7) + v2).toNatClampNeg)) + v3)) (fun m1 =>
  some m1))
  else none)
  else none
set_option maxHeartbeats 4000000 in
set_option maxRecDepth 20000 in
theorem gX6_add (E : XE) {r : Mem} (σ : Mem) (v1 : Int32) (v2 : Int32) (v3 : Int32)  (h : fX6_add σ v1 v2 v3 = some r) : G E LX qX6_add σ 0 [(0, .ref (xa E 13)), (1, .int v1), (2, .int v2), (3, .int v3)] [] (none, r) := by
  unfold fX6_add at h
  refine r_aload_n (pc := 0) 0 dX6_add_0 rfl rfl ?_
  refine r_getR (pc := 1) (i := 13) (j := 14) fdRX6_9 nLX_13 kLX_13 (by decide) rfl dX6_add_1 ?_
  refine r_iload_n (pc := 4) 1 dX6_add_4 rfl rfl ?_
  refine r_bipush (pc := 5) dX6_add_5 cb_7 ?_
  refine r_imul (pc := 7) dX6_add_7 ?_
  refine r_iload_n (pc := 8) 2 dX6_add_8 rfl rfl ?_
  refine r_iadd (pc := 9) dX6_add_9 ?_
  refine r_dup2 (pc := 10) dX6_add_10 rfl rfl ?_
  refine inb_k h (fun b1 h => ?_)
  refine r_iald (pc := 11) (i := 14) (((v1 * 7) + v2).toNatClampNeg) rfl nLX_14 kLX_14 lLX_14 b1 dX6_add_11 ?_
  refine r_iload_n (pc := 12) 3 dX6_add_12 rfl rfl ?_
  refine r_iadd (pc := 13) dX6_add_13 ?_
  refine inb_k h (fun b2 h => ?_)
  refine r_iast (pc := 14) (i := 14) (((v1 * 7) + v2).toNatClampNeg) ((σ 14 (((v1 * 7) + v2).toNatClampNeg)) + v3) rfl rfl nLX_14 kLX_14 lLX_14 b2 dX6_add_14 ?_
  refine g_bm h (fun m1 em1 h => ?_)
  exact r_vret (pc := 15) rfl dX6_add_15 (Option.some.inj h)
theorem ceX6_add (l : Launch) (d : SD) (σ : Mem) (v1 : Int32) (v2 : Int32) (v3 : Int32)  {r : Mem} (h : fX6_add σ v1 v2 v3 = some r) : Me l d LX yX6_add qX6_add σ [.ref (d.2.2.1 13), .int v1, .int v2, .int v3] (none, r) := me_of (avs := fun d => [.ref (d.2.2.1 13), .int v1, .int v2, .int v3]) (by decide) rfl (Nat.le_of_ble_eq_true rfl) (fun E => gX6_add E σ v1 v2 v3  h)
def fX6_read (σ : Mem) (v1 : Int32) (v2 : Int32) : Option Int32 :=
  if inb ((v1 * 7) + v2) 1407 = true then
  (some (σ 14 (((v1 * 7) + v2).toNatClampNeg)))
  else none
set_option maxHeartbeats 4000000 in
set_option maxRecDepth 20000 in
theorem gX6_read (E : XE) {r : Int32} (σ : Mem) (v1 : Int32) (v2 : Int32)  (h : fX6_read σ v1 v2 = some r) : G E LX qX6_read σ 0 [(0, .ref (xa E 13)), (1, .int v1), (2, .int v2)] [] (some r, σ) := by
  unfold fX6_read at h
  refine r_aload_n (pc := 0) 0 dX6_read_0 rfl rfl ?_
  refine r_getR (pc := 1) (i := 13) (j := 14) fdRX6_9 nLX_13 kLX_13 (by decide) rfl dX6_read_1 ?_
  refine r_iload_n (pc := 4) 1 dX6_read_4 rfl rfl ?_
  refine r_bipush (pc := 5) dX6_read_5 cb_7 ?_
  refine r_imul (pc := 7) dX6_read_7 ?_
  refine r_iload_n (pc := 8) 2 dX6_read_8 rfl rfl ?_
  refine r_iadd (pc := 9) dX6_read_9 ?_
  refine inb_k h (fun b1 h => ?_)
  refine r_iald (pc := 10) (i := 14) (((v1 * 7) + v2).toNatClampNeg) rfl nLX_14 kLX_14 lLX_14 b1 dX6_read_10 ?_
  exact r_iret (pc := 11) rfl dX6_read_11 (Option.some.inj h) rfl
theorem ceX6_read (l : Launch) (d : SD) (σ : Mem) (v1 : Int32) (v2 : Int32)  {r : Int32} (h : fX6_read σ v1 v2 = some r) : Me l d LX yX6_read qX6_read σ [.ref (d.2.2.1 13), .int v1, .int v2] (some r, σ) := me_of (avs := fun d => [.ref (d.2.2.1 13), .int v1, .int v2]) (by decide) rfl (Nat.le_of_ble_eq_true rfl) (fun E => gX6_read E σ v1 v2  h)
def fX7_begin_17  : Nat → Mem → Nat → Int32 → Option Mem
  | 0, _, _, _ => none
  | n + 1, σ, v0, v3 =>
    if 200 ≤ v3 then
      (some σ)
    else
      (if inb v3 200 = true then
      (bm (mset σ (rfX v0 0) v3.toNatClampNeg 0) (fun m1 =>
      fX7_begin_17 n m1 v0 (v3 + 1)))
      else none)
set_option maxHeartbeats 4000000 in
set_option maxRecDepth 20000 in
theorem gX7_begin_17 (E : XE)  {r : Mem}  : ∀ (n : Nat) (σ : Mem) (v0 : Nat) (v3 : Int32), v0 < LX.1 → LX.2.1 v0 = 7 → fX7_begin_17 n σ v0 v3 = some r → G E LX qX7_begin σ 17 [(0, .ref (xa E v0)), (3, .int v3)] [] (none, r) := by
  intro n
  induction n with
  | zero => intro σ v0 v3 n_v0 k_v0 h; cases h
  | succ n ih =>
    intro σ v0 v3 n_v0 k_v0 h
    unfold fX7_begin_17 at h
    refine r_iload_n (pc := 17) 1 dX7_begin_17 rfl rfl ?_
    refine r_sipush (pc := 18) dX7_begin_18 cs_200 ?_
    refine r_icmp_ge (pc := 21) 37 dX7_begin_21 (by decide) h (fun c1 h => ?_) (fun c1 h => ?_)
    · exact r_vret (pc := 37) rfl dX7_begin_37 (Option.some.inj h)
    · refine r_aload_n (pc := 24) 0 dX7_begin_24 rfl rfl ?_
      refine r_getR (pc := 25) (i := v0) (j := rfX v0 0) fdRX7_9 n_v0 k_v0 (by decide) rfl dX7_begin_25 ?_
      refine r_iload_n (pc := 28) 1 dX7_begin_28 rfl rfl ?_
      refine r_iconst (pc := 29) dX7_begin_29 ci_0 ?_
      refine inb_k h (fun b1 h => ?_)
      refine r_iast (pc := 30) (i := rfX v0 0) (v3.toNatClampNeg) (0) rfl rfl (rlLX_7_0 n_v0 k_v0).1 (rlLX_7_0 n_v0 k_v0).2.1 (rlLX_7_0 n_v0 k_v0).2.2 b1 dX7_begin_30 ?_
      refine g_bm h (fun m1 em1 h => ?_)
      refine r_iinc (pc := 31) (v := v3 + 1) (lv' := [(3, .int (v3 + 1)), (0, .ref (xa E v0))]) 1 dX7_begin_31 rfl (by rw [ci_1]) (Nat.le_of_ble_eq_true rfl) rfl ?_
      refine r_goto (pc := 34) 17 dX7_begin_34 (by decide) ?_
      refine r_sub [1, 0] rfl ?_
      exact ih m1 v0 (v3 + 1) n_v0 k_v0 h
def fX7_begin (σ : Mem) (v0 : Nat) (v1 : Int32) (v2 : Int32) : Option Mem :=
  bm (mset σ v0 1 0) (fun m1 =>
  bm (mset m1 v0 2 v1) (fun m2 =>
  bm (mset m2 v0 3 v2) (fun m3 =>
  fX7_begin_17 300 m3 v0 0)))
set_option maxHeartbeats 4000000 in
set_option maxRecDepth 20000 in
theorem gX7_begin (E : XE) {r : Mem} (σ : Mem) (v0 : Nat) (v1 : Int32) (v2 : Int32) (n_v0 : v0 < LX.1) (k_v0 : LX.2.1 v0 = 7) (h : fX7_begin σ v0 v1 v2 = some r) : G E LX qX7_begin σ 0 [(0, .ref (xa E v0)), (1, .int v1), (2, .int v2)] [] (none, r) := by
  unfold fX7_begin at h
  refine r_aload_n (pc := 0) 0 dX7_begin_0 rfl rfl ?_
  refine r_iconst (pc := 1) dX7_begin_1 ci_0 ?_
  refine r_putI (pc := 2) (i := v0) fpRX7_15 n_v0 k_v0 (by decide) rfl rfl dX7_begin_2 ?_
  refine g_bm h (fun m1 em1 h => ?_)
  refine r_aload_n (pc := 5) 0 dX7_begin_5 rfl rfl ?_
  refine r_iload_n (pc := 6) 1 dX7_begin_6 rfl rfl ?_
  refine r_putI (pc := 7) (i := v0) fpRX7_19 n_v0 k_v0 (by decide) rfl rfl dX7_begin_7 ?_
  refine g_bm h (fun m2 em2 h => ?_)
  refine r_aload_n (pc := 10) 0 dX7_begin_10 rfl rfl ?_
  refine r_iload_n (pc := 11) 2 dX7_begin_11 rfl rfl ?_
  refine r_putI (pc := 12) (i := v0) fpRX7_23 n_v0 k_v0 (by decide) rfl rfl dX7_begin_12 ?_
  refine g_bm h (fun m3 em3 h => ?_)
  refine r_iconst (pc := 15) dX7_begin_15 ci_0 ?_
  refine r_istore_n (pc := 16) (lv' := [(3, .int 0), (0, .ref (xa E v0)), (1, .int v1), (2, .int v2)]) dX7_begin_16 rfl (Nat.le_of_ble_eq_true rfl) rfl ?_
  refine r_sub [1, 0] rfl ?_
  exact gX7_begin_17 E 300 m3 v0 0 n_v0 k_v0 h
theorem ceX7_begin (l : Launch) (d : SD) (σ : Mem) (v0 : Nat) (v1 : Int32) (v2 : Int32) (n_v0 : v0 < LX.1) (k_v0 : LX.2.1 v0 = 7) {r : Mem} (h : fX7_begin σ v0 v1 v2 = some r) : Me l d LX yX7_begin qX7_begin σ [.ref (d.2.2.1 v0), .int v1, .int v2] (none, r) := me_of (avs := fun d => [.ref (d.2.2.1 v0), .int v1, .int v2]) (by decide) rfl (Nat.le_of_ble_eq_true rfl) (fun E => gX7_begin E σ v0 v1 v2 n_v0 k_v0 h)
def fX7_mostInPlace (σ : Mem) (v0 : Nat) : Int32 :=
  if σ v0 2 = 0 then
    (100)
  else
    (1000)
set_option maxHeartbeats 4000000 in
set_option maxRecDepth 20000 in
theorem gX7_mostInPlace (E : XE) {r : Int32} (σ : Mem) (v0 : Nat) (n_v0 : v0 < LX.1) (k_v0 : LX.2.1 v0 = 7) (h : fX7_mostInPlace σ v0 = r) : G E LX qX7_mostInPlace σ 0 [(0, .ref (xa E v0))] [] (some r, σ) := by
  unfold fX7_mostInPlace at h
  refine r_aload_n (pc := 0) 0 dX7_mostInPlace_0 rfl rfl ?_
  refine r_getI (pc := 1) (i := v0) fdRX7_19 n_v0 k_v0 (by decide) dX7_mostInPlace_1 ?_
  refine r_if_ne (pc := 4) 12 dX7_mostInPlace_4 (by decide) h (fun c1 h => ?_) (fun c1 h => ?_)
  · refine r_bipush (pc := 7) dX7_mostInPlace_7 cb_100 ?_
    refine r_goto (pc := 9) 15 dX7_mostInPlace_9 (by decide) ?_
    exact r_iret (pc := 15) rfl dX7_mostInPlace_15 h rfl
  · refine r_sipush (pc := 12) dX7_mostInPlace_12 cs_1000 ?_
    exact r_iret (pc := 15) rfl dX7_mostInPlace_15 h rfl
theorem ceX7_mostInPlace (l : Launch) (d : SD) (σ : Mem) (v0 : Nat) (n_v0 : v0 < LX.1) (k_v0 : LX.2.1 v0 = 7) {r : Int32} (h : fX7_mostInPlace σ v0 = r) : Me l d LX yX7_mostInPlace qX7_mostInPlace σ [.ref (d.2.2.1 v0)] (some r, σ) := me_of (avs := fun d => [.ref (d.2.2.1 v0)]) (by decide) rfl (Nat.le_of_ble_eq_true rfl) (fun E => gX7_mostInPlace E σ v0 n_v0 k_v0 h)
def fX7_write (σ : Mem) (v0 : Nat) (v1 : Int32) (v2 : Int32) : Option (Int32 × Mem) :=
  if inb v1 200 = true then
  (bi (σ (rfX v0 0) v1.toNatClampNeg) (fun x1 =>
  if inb v1 200 = true then
  (bm (mset σ (rfX v0 0) v1.toNatClampNeg v2) (fun m1 =>
  some (x1, m1)))
  else none))
  else none
set_option maxHeartbeats 4000000 in
set_option maxRecDepth 20000 in
theorem gX7_write (E : XE) {r : Int32 × Mem} (σ : Mem) (v0 : Nat) (v1 : Int32) (v2 : Int32) (n_v0 : v0 < LX.1) (k_v0 : LX.2.1 v0 = 7) (h : fX7_write σ v0 v1 v2 = some r) : G E LX qX7_write σ 0 [(0, .ref (xa E v0)), (1, .int v1), (2, .int v2)] [] (some r.1, r.2) := by
  unfold fX7_write at h
  refine r_aload_n (pc := 0) 0 dX7_write_0 rfl rfl ?_
  refine r_getR (pc := 1) (i := v0) (j := rfX v0 0) fdRX7_9 n_v0 k_v0 (by decide) rfl dX7_write_1 ?_
  refine r_iload_n (pc := 4) 1 dX7_write_4 rfl rfl ?_
  refine inb_k h (fun b1 h => ?_)
  refine r_iald (pc := 5) (i := rfX v0 0) (v1.toNatClampNeg) rfl (rlLX_7_0 n_v0 k_v0).1 (rlLX_7_0 n_v0 k_v0).2.1 (rlLX_7_0 n_v0 k_v0).2.2 b1 dX7_write_5 ?_
  refine g_bi h (fun x1 ex1 h => ?_)
  refine r_istore_n (pc := 6) (lv' := [(3, .int x1), (0, .ref (xa E v0)), (1, .int v1), (2, .int v2)]) dX7_write_6 rfl (Nat.le_of_ble_eq_true rfl) rfl ?_
  refine r_aload_n (pc := 7) 1 dX7_write_7 rfl rfl ?_
  refine r_getR (pc := 8) (i := v0) (j := rfX v0 0) fdRX7_9 n_v0 k_v0 (by decide) rfl dX7_write_8 ?_
  refine r_iload_n (pc := 11) 2 dX7_write_11 rfl rfl ?_
  refine r_iload_n (pc := 12) 3 dX7_write_12 rfl rfl ?_
  refine inb_k h (fun b2 h => ?_)
  refine r_iast (pc := 13) (i := rfX v0 0) (v1.toNatClampNeg) (v2) rfl rfl (rlLX_7_0 n_v0 k_v0).1 (rlLX_7_0 n_v0 k_v0).2.1 (rlLX_7_0 n_v0 k_v0).2.2 b2 dX7_write_13 ?_
  refine g_bm h (fun m1 em1 h => ?_)
  refine r_iload_n (pc := 14) 0 dX7_write_14 rfl rfl ?_
  exact r_iretW (pc := 15) rfl dX7_write_15 h
theorem ceX7_write (l : Launch) (d : SD) (σ : Mem) (v0 : Nat) (v1 : Int32) (v2 : Int32) (n_v0 : v0 < LX.1) (k_v0 : LX.2.1 v0 = 7) {r : Int32 × Mem} (h : fX7_write σ v0 v1 v2 = some r) : Me l d LX yX7_write qX7_write σ [.ref (d.2.2.1 v0), .int v1, .int v2] (some r.1, r.2) := me_of (avs := fun d => [.ref (d.2.2.1 v0), .int v1, .int v2]) (by decide) rfl (Nat.le_of_ble_eq_true rfl) (fun E => gX7_write E σ v0 v1 v2 n_v0 k_v0 h)
def fX7_hasPlaces (σ : Mem) (v0 : Nat) (v1 : Int32) (v2 : Int32) : Int32 :=
  if fX9_isWithin σ v2 0 (σ v0 3) = 0 then
    (0)
  else
    (if fX9_isWithin σ v1 0 ((σ v0 3) - v2) = 0 then
      (0)
    else
      (1))
set_option maxHeartbeats 4000000 in
set_option maxRecDepth 20000 in
theorem gX7_hasPlaces (E : XE) {r : Int32} (σ : Mem) (v0 : Nat) (v1 : Int32) (v2 : Int32) (n_v0 : v0 < LX.1) (k_v0 : LX.2.1 v0 = 7) (h : fX7_hasPlaces σ v0 v1 v2 = r) : G E LX qX7_hasPlaces σ 0 [(0, .ref (xa E v0)), (1, .int v1), (2, .int v2)] [] (some r, σ) := by
  unfold fX7_hasPlaces at h
  refine r_iload_n (pc := 0) 2 dX7_hasPlaces_0 rfl rfl ?_
  refine r_iconst (pc := 1) dX7_hasPlaces_1 ci_0 ?_
  refine r_aload_n (pc := 2) 0 dX7_hasPlaces_2 rfl rfl ?_
  refine r_getI (pc := 3) (i := v0) fdRX7_23 n_v0 k_v0 (by decide) dX7_hasPlaces_3 ?_
  refine r_callS (pc := 6) (As := [.int v2, .int 0, .int (σ v0 3)]) (rest := []) lkRX7_26 (ceX9_isWithin _ _ σ v2 0 (σ v0 3) rfl) ⟨Nat.le_of_ble_eq_true rfl, Nat.le_of_ble_eq_true rfl⟩ rfl rfl (Nat.le_of_ble_eq_true rfl) dX7_hasPlaces_6 rfl ?_
  refine r_if_eq (pc := 9) 30 dX7_hasPlaces_9 (by decide) h (fun c1 h => ?_) (fun c1 h => ?_)
  · refine r_iconst (pc := 30) dX7_hasPlaces_30 ci_0 ?_
    exact r_zret (pc := 31) rfl rfl dX7_hasPlaces_31 h rfl
  · refine r_iload_n (pc := 12) 1 dX7_hasPlaces_12 rfl rfl ?_
    refine r_iconst (pc := 13) dX7_hasPlaces_13 ci_0 ?_
    refine r_aload_n (pc := 14) 0 dX7_hasPlaces_14 rfl rfl ?_
    refine r_getI (pc := 15) (i := v0) fdRX7_23 n_v0 k_v0 (by decide) dX7_hasPlaces_15 ?_
    refine r_iload_n (pc := 18) 2 dX7_hasPlaces_18 rfl rfl ?_
    refine r_isub (pc := 19) dX7_hasPlaces_19 ?_
    refine r_callS (pc := 20) (As := [.int v1, .int 0, .int ((σ v0 3) - v2)]) (rest := []) lkRX7_26 (ceX9_isWithin _ _ σ v1 0 ((σ v0 3) - v2) rfl) ⟨Nat.le_of_ble_eq_true rfl, Nat.le_of_ble_eq_true rfl⟩ rfl rfl (Nat.le_of_ble_eq_true rfl) dX7_hasPlaces_20 rfl ?_
    refine r_if_eq (pc := 23) 30 dX7_hasPlaces_23 (by decide) h (fun c2 h => ?_) (fun c2 h => ?_)
    · refine r_iconst (pc := 30) dX7_hasPlaces_30 ci_0 ?_
      exact r_zret (pc := 31) rfl rfl dX7_hasPlaces_31 h rfl
    · refine r_iconst (pc := 26) dX7_hasPlaces_26 ci_1 ?_
      refine r_goto (pc := 27) 31 dX7_hasPlaces_27 (by decide) ?_
      exact r_zret (pc := 31) rfl rfl dX7_hasPlaces_31 h rfl
theorem ceX7_hasPlaces (l : Launch) (d : SD) (σ : Mem) (v0 : Nat) (v1 : Int32) (v2 : Int32) (n_v0 : v0 < LX.1) (k_v0 : LX.2.1 v0 = 7) {r : Int32} (h : fX7_hasPlaces σ v0 v1 v2 = r) : Me l d LX yX7_hasPlaces qX7_hasPlaces σ [.ref (d.2.2.1 v0), .int v1, .int v2] (some r, σ) := me_of (avs := fun d => [.ref (d.2.2.1 v0), .int v1, .int v2]) (by decide) rfl (Nat.le_of_ble_eq_true rfl) (fun E => gX7_hasPlaces E σ v0 v1 v2 n_v0 k_v0 h)
theorem nbX7_hasPlaces {σ : Mem} {v0 : Nat} {v1 : Int32} {v2 : Int32} : narrow .boolean (.int (fX7_hasPlaces σ v0 v1 v2)) = .int (fX7_hasPlaces σ v0 v1 v2) := by
  unfold fX7_hasPlaces
  repeat' split
  all_goals rfl
def fX7_inYear (σ : Mem) (v0 : Nat) (v1 : Int32) : Option Int32 :=
  if σ v0 1 = 0 then
    (if fX9_isWithin σ v1 0 ((σ v0 3) - 1) = 0 then
      (some (0))
    else
      (if inb v1 200 = true then
      (some (σ (rfX v0 0) v1.toNatClampNeg))
      else none))
  else
    (some (0))
set_option maxHeartbeats 4000000 in
set_option maxRecDepth 20000 in
theorem gX7_inYear (E : XE) {r : Int32} (σ : Mem) (v0 : Nat) (v1 : Int32) (n_v0 : v0 < LX.1) (k_v0 : LX.2.1 v0 = 7) (h : fX7_inYear σ v0 v1 = some r) : G E LX qX7_inYear σ 0 [(0, .ref (xa E v0)), (1, .int v1)] [] (some r, σ) := by
  unfold fX7_inYear at h
  refine r_aload_n (pc := 0) 0 dX7_inYear_0 rfl rfl ?_
  refine r_getI (pc := 1) (i := v0) fdRX7_15 n_v0 k_v0 (by decide) dX7_inYear_1 ?_
  refine r_if_ne (pc := 4) 21 dX7_inYear_4 (by decide) h (fun c1 h => ?_) (fun c1 h => ?_)
  · refine r_iload_n (pc := 7) 1 dX7_inYear_7 rfl rfl ?_
    refine r_iconst (pc := 8) dX7_inYear_8 ci_0 ?_
    refine r_aload_n (pc := 9) 0 dX7_inYear_9 rfl rfl ?_
    refine r_getI (pc := 10) (i := v0) fdRX7_23 n_v0 k_v0 (by decide) dX7_inYear_10 ?_
    refine r_iconst (pc := 13) dX7_inYear_13 ci_1 ?_
    refine r_isub (pc := 14) dX7_inYear_14 ?_
    refine r_callS (pc := 15) (As := [.int v1, .int 0, .int ((σ v0 3) - 1)]) (rest := []) lkRX7_26 (ceX9_isWithin _ _ σ v1 0 ((σ v0 3) - 1) rfl) ⟨Nat.le_of_ble_eq_true rfl, Nat.le_of_ble_eq_true rfl⟩ rfl rfl (Nat.le_of_ble_eq_true rfl) dX7_inYear_15 rfl ?_
    refine r_if_ne (pc := 18) 25 dX7_inYear_18 (by decide) h (fun c2 h => ?_) (fun c2 h => ?_)
    · refine r_iconst (pc := 21) dX7_inYear_21 ci_0 ?_
      refine r_goto (pc := 22) 31 dX7_inYear_22 (by decide) ?_
      exact r_iret (pc := 31) rfl dX7_inYear_31 (Option.some.inj h) rfl
    · refine r_aload_n (pc := 25) 0 dX7_inYear_25 rfl rfl ?_
      refine r_getR (pc := 26) (i := v0) (j := rfX v0 0) fdRX7_9 n_v0 k_v0 (by decide) rfl dX7_inYear_26 ?_
      refine r_iload_n (pc := 29) 1 dX7_inYear_29 rfl rfl ?_
      refine inb_k h (fun b1 h => ?_)
      refine r_iald (pc := 30) (i := rfX v0 0) (v1.toNatClampNeg) rfl (rlLX_7_0 n_v0 k_v0).1 (rlLX_7_0 n_v0 k_v0).2.1 (rlLX_7_0 n_v0 k_v0).2.2 b1 dX7_inYear_30 ?_
      exact r_iret (pc := 31) rfl dX7_inYear_31 (Option.some.inj h) rfl
  · refine r_iconst (pc := 21) dX7_inYear_21 ci_0 ?_
    refine r_goto (pc := 22) 31 dX7_inYear_22 (by decide) ?_
    exact r_iret (pc := 31) rfl dX7_inYear_31 (Option.some.inj h) rfl
theorem ceX7_inYear (l : Launch) (d : SD) (σ : Mem) (v0 : Nat) (v1 : Int32) (n_v0 : v0 < LX.1) (k_v0 : LX.2.1 v0 = 7) {r : Int32} (h : fX7_inYear σ v0 v1 = some r) : Me l d LX yX7_inYear qX7_inYear σ [.ref (d.2.2.1 v0), .int v1] (some r, σ) := me_of (avs := fun d => [.ref (d.2.2.1 v0), .int v1]) (by decide) rfl (Nat.le_of_ble_eq_true rfl) (fun E => gX7_inYear E σ v0 v1 n_v0 k_v0 h)
def fX8_addNumber_3  : Nat → Mem → Int32 → Int32 → Option Mem
  | 0, _, _, _ => none
  | n + 1, σ, v1, v2 =>
    if v2 < 0 then
      (some σ)
    else
      (if 48 ≤ σ 6 1 then
        (some σ)
      else
        (if inb (σ 6 1) 48 = true then
        (bm (mset σ 7 ((σ 6 1).toNatClampNeg) ((v1 >>> (v2 &&& 31)).toInt8.toInt32)) (fun m1 =>
        bm (mset m1 6 1 ((m1 6 1) + 1)) (fun m2 =>
        fX8_addNumber_3 n m2 v1 (v2 + (-8)))))
        else none))
set_option maxHeartbeats 4000000 in
set_option maxRecDepth 20000 in
theorem gX8_addNumber_3 (E : XE)  {r : Mem}  : ∀ (n : Nat) (σ : Mem) (v1 : Int32) (v2 : Int32), fX8_addNumber_3 n σ v1 v2 = some r → G E LX qX8_addNumber σ 3 [(0, .ref (xa E 6)), (1, .int v1), (2, .int v2)] [] (none, r) := by
  intro n
  induction n with
  | zero => intro σ v1 v2 h; cases h
  | succ n ih =>
    intro σ v1 v2 h
    unfold fX8_addNumber_3 at h
    refine r_iload_n (pc := 3) 2 dX8_addNumber_3 rfl rfl ?_
    refine r_if_lt (pc := 4) 45 dX8_addNumber_4 (by decide) h (fun c1 h => ?_) (fun c1 h => ?_)
    · exact r_vret (pc := 45) rfl dX8_addNumber_45 (Option.some.inj h)
    · refine r_aload_n (pc := 7) 0 dX8_addNumber_7 rfl rfl ?_
      refine r_getI (pc := 8) (i := 6) fdRX8_15 nLX_6 kLX_6 (by decide) dX8_addNumber_8 ?_
      refine r_bipush (pc := 11) dX8_addNumber_11 cb_48 ?_
      refine r_icmp_ge (pc := 13) 45 dX8_addNumber_13 (by decide) h (fun c2 h => ?_) (fun c2 h => ?_)
      · exact r_vret (pc := 45) rfl dX8_addNumber_45 (Option.some.inj h)
      · refine r_aload_n (pc := 16) 0 dX8_addNumber_16 rfl rfl ?_
        refine r_getR (pc := 17) (i := 6) (j := 7) fdRX8_9 nLX_6 kLX_6 (by decide) rfl dX8_addNumber_17 ?_
        refine r_aload_n (pc := 20) 0 dX8_addNumber_20 rfl rfl ?_
        refine r_getI (pc := 21) (i := 6) fdRX8_15 nLX_6 kLX_6 (by decide) dX8_addNumber_21 ?_
        refine r_iload_n (pc := 24) 1 dX8_addNumber_24 rfl rfl ?_
        refine r_iload_n (pc := 25) 2 dX8_addNumber_25 rfl rfl ?_
        refine r_ishr (pc := 26) dX8_addNumber_26 ?_
        refine r_i2b (pc := 27) dX8_addNumber_27 ?_
        refine inb_k h (fun b1 h => ?_)
        refine r_bast (pc := 28) (i := 7) ((σ 6 1).toNatClampNeg) ((v1 >>> (v2 &&& 31)).toInt8.toInt32) rfl (pk_vb _) nLX_7 kLX_7 lLX_7 b1 dX8_addNumber_28 ?_
        refine g_bm h (fun m1 em1 h => ?_)
        refine r_aload_n (pc := 29) 0 dX8_addNumber_29 rfl rfl ?_
        refine r_dup (pc := 30) dX8_addNumber_30 rfl ?_
        refine r_getI (pc := 31) (i := 6) fdRX8_15 nLX_6 kLX_6 (by decide) dX8_addNumber_31 ?_
        refine r_iconst (pc := 34) dX8_addNumber_34 ci_1 ?_
        refine r_iadd (pc := 35) dX8_addNumber_35 ?_
        refine r_putI (pc := 36) (i := 6) fpRX8_15 nLX_6 kLX_6 (by decide) rfl rfl dX8_addNumber_36 ?_
        refine g_bm h (fun m2 em2 h => ?_)
        refine r_iinc (pc := 39) (v := v2 + (-8)) (lv' := [(2, .int (v2 + (-8))), (0, .ref (xa E 6)), (1, .int v1)]) 2 dX8_addNumber_39 rfl (by rw [ci_m8]) (Nat.le_of_ble_eq_true rfl) rfl ?_
        refine r_goto (pc := 42) 3 dX8_addNumber_42 (by decide) ?_
        refine r_sub [1, 2, 0] rfl ?_
        exact ih m2 v1 (v2 + (-8)) h
def fX8_addNumber (σ : Mem) (v1 : Int32) : Option Mem :=
  fX8_addNumber_3 300 σ v1 24
set_option maxHeartbeats 4000000 in
set_option maxRecDepth 20000 in
theorem gX8_addNumber (E : XE) {r : Mem} (σ : Mem) (v1 : Int32)  (h : fX8_addNumber σ v1 = some r) : G E LX qX8_addNumber σ 0 [(0, .ref (xa E 6)), (1, .int v1)] [] (none, r) := by
  unfold fX8_addNumber at h
  refine r_bipush (pc := 0) dX8_addNumber_0 cb_24 ?_
  refine r_istore_n (pc := 2) (lv' := [(2, .int 24), (0, .ref (xa E 6)), (1, .int v1)]) dX8_addNumber_2 rfl (Nat.le_of_ble_eq_true rfl) rfl ?_
  refine r_sub [1, 2, 0] rfl ?_
  exact gX8_addNumber_3 E 300 σ v1 24 h
theorem ceX8_addNumber (l : Launch) (d : SD) (σ : Mem) (v1 : Int32)  {r : Mem} (h : fX8_addNumber σ v1 = some r) : Me l d LX yX8_addNumber qX8_addNumber σ [.ref (d.2.2.1 6), .int v1] (none, r) := me_of (avs := fun d => [.ref (d.2.2.1 6), .int v1]) (by decide) rfl (Nat.le_of_ble_eq_true rfl) (fun E => gX8_addNumber E σ v1  h)
