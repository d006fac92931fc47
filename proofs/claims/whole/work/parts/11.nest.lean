def fX2_has (σ : Mem) (v0 : Nat) (v1 : Int32) : Int32 :=
  fX9_isWithin σ v1 0 ((σ v0 1) - 1)
set_option maxHeartbeats 4000000 in
set_option maxRecDepth 20000 in
theorem gX2_has (E : XE) {r : Int32} (σ : Mem) (v0 : Nat) (v1 : Int32) (n_v0 : v0 < LX.1) (k_v0 : LX.2.1 v0 = 2) (h : fX2_has σ v0 v1 = r) : G E LX qX2_has σ 0 [(0, .ref (xa E v0)), (1, .int v1)] [] (some r, σ) := by
  unfold fX2_has at h
  refine r_iload_n (pc := 0) 1 dX2_has_0 rfl rfl ?_
  refine r_iconst (pc := 1) dX2_has_1 ci_0 ?_
  refine r_aload_n (pc := 2) 0 dX2_has_2 rfl rfl ?_
  refine r_getI (pc := 3) (i := v0) fdRX2_18 n_v0 k_v0 (by decide) dX2_has_3 ?_
  refine r_iconst (pc := 6) dX2_has_6 ci_1 ?_
  refine r_isub (pc := 7) dX2_has_7 ?_
  refine r_callS (pc := 8) (As := [.int v1, .int 0, .int ((σ v0 1) - 1)]) (rest := []) lkRX2_22 (ceX9_isWithin _ _ σ v1 0 ((σ v0 1) - 1) rfl) ⟨Nat.le_of_ble_eq_true rfl, Nat.le_of_ble_eq_true rfl⟩ rfl rfl (Nat.le_of_ble_eq_true rfl) dX2_has_8 rfl ?_
  exact r_zret (pc := 11) rfl (nbX9_isWithin) dX2_has_11 h rfl
theorem ceX2_has (l : Launch) (d : SD) (σ : Mem) (v0 : Nat) (v1 : Int32) (n_v0 : v0 < LX.1) (k_v0 : LX.2.1 v0 = 2) {r : Int32} (h : fX2_has σ v0 v1 = r) : Me l d LX yX2_has qX2_has σ [.ref (d.2.2.1 v0), .int v1] (some r, σ) := me_of (avs := fun d => [.ref (d.2.2.1 v0), .int v1]) (by decide) rfl (Nat.le_of_ble_eq_true rfl) (fun E => gX2_has E σ v0 v1 n_v0 k_v0 h)
theorem nbX2_has {σ : Mem} {v0 : Nat} {v1 : Int32} : narrow .boolean (.int (fX2_has σ v0 v1)) = .int (fX2_has σ v0 v1) := by unfold fX2_has; exact nbX9_isWithin
def fX2_build (σ : Mem) (v0 : Nat) (v1 : Int32) : Option (Int32 × Mem) :=
  if inb (σ v0 1) 10 = true then
  (bm (mset σ (rfX (rfX v0 0) ((σ v0 1).toNatClampNeg)) 0 v1) (fun m1 =>
  if inb (m1 v0 1) 10 = true then
  (bm (mset m1 (rfX (rfX v0 0) ((m1 v0 1).toNatClampNeg)) 1 1000) (fun m2 =>
  bm (mset m2 v0 1 ((m2 v0 1) + 1)) (fun m3 =>
  some ((m3 v0 1) - 1, m3))))
  else none))
  else none
set_option maxHeartbeats 4000000 in
set_option maxRecDepth 20000 in
theorem gX2_build (E : XE) {r : Int32 × Mem} (σ : Mem) (v0 : Nat) (v1 : Int32) (n_v0 : v0 < LX.1) (k_v0 : LX.2.1 v0 = 2) (h : fX2_build σ v0 v1 = some r) : G E LX qX2_build σ 0 [(0, .ref (xa E v0)), (1, .int v1)] [] (some r.1, r.2) := by
  unfold fX2_build at h
  refine r_aload_n (pc := 0) 0 dX2_build_0 rfl rfl ?_
  refine r_getR (pc := 1) (i := v0) (j := rfX v0 0) fdRX2_11 n_v0 k_v0 (by decide) rfl dX2_build_1 ?_
  refine r_aload_n (pc := 4) 0 dX2_build_4 rfl rfl ?_
  refine r_getI (pc := 5) (i := v0) fdRX2_18 n_v0 k_v0 (by decide) dX2_build_5 ?_
  refine inb_k h (fun b1 h => ?_)
  refine r_aald14 (pc := 8) (i := rfX v0 0) ((σ v0 1).toNatClampNeg) (rfX (rfX v0 0) ((σ v0 1).toNatClampNeg)) rfl (rlLX_2_0 n_v0 k_v0).1 (rlLX_2_0 n_v0 k_v0).2.1 (rlLX_2_0 n_v0 k_v0).2.2 rfl b1 dX2_build_8 ?_
  refine r_iload_n (pc := 9) 1 dX2_build_9 rfl rfl ?_
  refine r_putI (pc := 10) (i := rfX (rfX v0 0) ((σ v0 1).toNatClampNeg)) fpRX2_26 (elLX_14 (rlLX_2_0 n_v0 k_v0).1 (rlLX_2_0 n_v0 k_v0).2.1 (inb_lt b1)).1 (elLX_14 (rlLX_2_0 n_v0 k_v0).1 (rlLX_2_0 n_v0 k_v0).2.1 (inb_lt b1)).2 (by decide) rfl rfl dX2_build_10 ?_
  refine g_bm h (fun m1 em1 h => ?_)
  refine r_aload_n (pc := 13) 0 dX2_build_13 rfl rfl ?_
  refine r_getR (pc := 14) (i := v0) (j := rfX v0 0) fdRX2_11 n_v0 k_v0 (by decide) rfl dX2_build_14 ?_
  refine r_aload_n (pc := 17) 0 dX2_build_17 rfl rfl ?_
  refine r_getI (pc := 18) (i := v0) fdRX2_18 n_v0 k_v0 (by decide) dX2_build_18 ?_
  refine inb_k h (fun b2 h => ?_)
  refine r_aald14 (pc := 21) (i := rfX v0 0) ((m1 v0 1).toNatClampNeg) (rfX (rfX v0 0) ((m1 v0 1).toNatClampNeg)) rfl (rlLX_2_0 n_v0 k_v0).1 (rlLX_2_0 n_v0 k_v0).2.1 (rlLX_2_0 n_v0 k_v0).2.2 rfl b2 dX2_build_21 ?_
  refine r_sipush (pc := 22) dX2_build_22 cs_1000 ?_
  refine r_putI (pc := 25) (i := rfX (rfX v0 0) ((m1 v0 1).toNatClampNeg)) fpRX2_29 (elLX_14 (rlLX_2_0 n_v0 k_v0).1 (rlLX_2_0 n_v0 k_v0).2.1 (inb_lt b2)).1 (elLX_14 (rlLX_2_0 n_v0 k_v0).1 (rlLX_2_0 n_v0 k_v0).2.1 (inb_lt b2)).2 (by decide) rfl rfl dX2_build_25 ?_
  refine g_bm h (fun m2 em2 h => ?_)
  refine r_aload_n (pc := 28) 0 dX2_build_28 rfl rfl ?_
  refine r_dup (pc := 29) dX2_build_29 rfl ?_
  refine r_getI (pc := 30) (i := v0) fdRX2_18 n_v0 k_v0 (by decide) dX2_build_30 ?_
  refine r_iconst (pc := 33) dX2_build_33 ci_1 ?_
  refine r_iadd (pc := 34) dX2_build_34 ?_
  refine r_putI (pc := 35) (i := v0) fpRX2_18 n_v0 k_v0 (by decide) rfl rfl dX2_build_35 ?_
  refine g_bm h (fun m3 em3 h => ?_)
  refine r_aload_n (pc := 38) 0 dX2_build_38 rfl rfl ?_
  refine r_getI (pc := 39) (i := v0) fdRX2_18 n_v0 k_v0 (by decide) dX2_build_39 ?_
  refine r_iconst (pc := 42) dX2_build_42 ci_1 ?_
  refine r_isub (pc := 43) dX2_build_43 ?_
  exact r_iretW (pc := 44) rfl dX2_build_44 h
theorem ceX2_build (l : Launch) (d : SD) (σ : Mem) (v0 : Nat) (v1 : Int32) (n_v0 : v0 < LX.1) (k_v0 : LX.2.1 v0 = 2) {r : Int32 × Mem} (h : fX2_build σ v0 v1 = some r) : Me l d LX yX2_build qX2_build σ [.ref (d.2.2.1 v0), .int v1] (some r.1, r.2) := me_of (avs := fun d => [.ref (d.2.2.1 v0), .int v1]) (by decide) rfl (Nat.le_of_ble_eq_true rfl) (fun E => gX2_build E σ v0 v1 n_v0 k_v0 h)
def fX2_fallen_4  : Nat → Mem → Nat → Int32 → Int32 → Option Int32
  | 0, _, _, _, _ => none
  | n + 1, σ, v0, v1, v2 =>
    if σ v0 1 ≤ v2 then
      (some (v1))
    else
      (if inb v2 10 = true then
      (if fX0_isFallen σ (rfX (rfX v0 0) v2.toNatClampNeg) = 0 then
        (bi (v1 + 0) (fun x1 =>
        fX2_fallen_4 n σ v0 x1 (v2 + 1)))
      else
        (bi (v1 + 1) (fun x2 =>
        fX2_fallen_4 n σ v0 x2 (v2 + 1))))
      else none)
set_option maxHeartbeats 4000000 in
set_option maxRecDepth 20000 in
theorem gX2_fallen_4 (E : XE)  {r : Int32}  (n : Nat) (σ : Mem) : ∀ (v0 : Nat) (v1 : Int32) (v2 : Int32), v0 < LX.1 → LX.2.1 v0 = 2 → fX2_fallen_4 n σ v0 v1 v2 = some r → G E LX qX2_fallen σ 4 [(0, .ref (xa E v0)), (1, .int v1), (2, .int v2)] [] (some r, σ) := by
  induction n with
  | zero => intro v0 v1 v2 n_v0 k_v0 h; cases h
  | succ n ih =>
    intro v0 v1 v2 n_v0 k_v0 h
    unfold fX2_fallen_4 at h
    refine r_iload_n (pc := 4) 2 dX2_fallen_4 rfl rfl ?_
    refine r_aload_n (pc := 5) 0 dX2_fallen_5 rfl rfl ?_
    refine r_getI (pc := 6) (i := v0) fdRX2_18 n_v0 k_v0 (by decide) dX2_fallen_6 ?_
    refine r_icmp_ge (pc := 9) 38 dX2_fallen_9 (by decide) h (fun c1 h => ?_) (fun c1 h => ?_)
    · refine r_iload_n (pc := 38) 1 dX2_fallen_38 rfl rfl ?_
      exact r_iret (pc := 39) rfl dX2_fallen_39 (Option.some.inj h) rfl
    · refine r_iload_n (pc := 12) 1 dX2_fallen_12 rfl rfl ?_
      refine r_aload_n (pc := 13) 0 dX2_fallen_13 rfl rfl ?_
      refine r_getR (pc := 14) (i := v0) (j := rfX v0 0) fdRX2_11 n_v0 k_v0 (by decide) rfl dX2_fallen_14 ?_
      refine r_iload_n (pc := 17) 2 dX2_fallen_17 rfl rfl ?_
      refine inb_k h (fun b1 h => ?_)
      refine r_aald14 (pc := 18) (i := rfX v0 0) (v2.toNatClampNeg) (rfX (rfX v0 0) v2.toNatClampNeg) rfl (rlLX_2_0 n_v0 k_v0).1 (rlLX_2_0 n_v0 k_v0).2.1 (rlLX_2_0 n_v0 k_v0).2.2 rfl b1 dX2_fallen_18 ?_
      refine r_callV (pc := 19) (i := rfX (rfX v0 0) v2.toNatClampNeg) (As := []) (rest := [.int v1]) lkRX2_32 (ceX0_isFallen _ _ σ (rfX (rfX v0 0) v2.toNatClampNeg) (elLX_14 (rlLX_2_0 n_v0 k_v0).1 (rlLX_2_0 n_v0 k_v0).2.1 (inb_lt b1)).1 (elLX_14 (rlLX_2_0 n_v0 k_v0).1 (rlLX_2_0 n_v0 k_v0).2.1 (inb_lt b1)).2 rfl) (elLX_14 (rlLX_2_0 n_v0 k_v0).1 (rlLX_2_0 n_v0 k_v0).2.1 (inb_lt b1)).1 (elLX_14 (rlLX_2_0 n_v0 k_v0).1 (rlLX_2_0 n_v0 k_v0).2.1 (inb_lt b1)).2 (by decide) rfl ⟨Nat.le_of_ble_eq_true rfl, Nat.le_of_ble_eq_true rfl⟩ rfl rfl (Nat.le_of_ble_eq_true rfl) dX2_fallen_19 rfl ?_
      refine r_if_eq (pc := 22) 29 dX2_fallen_22 (by decide) h (fun c2 h => ?_) (fun c2 h => ?_)
      · refine r_iconst (pc := 29) dX2_fallen_29 ci_0 ?_
        refine r_iadd (pc := 30) dX2_fallen_30 ?_
        refine g_bi h (fun x1 ex1 h => ?_)
        refine r_istore_n (pc := 31) (lv' := [(1, .int x1), (0, .ref (xa E v0)), (2, .int v2)]) dX2_fallen_31 rfl (Nat.le_of_ble_eq_true rfl) rfl ?_
        refine r_iinc (pc := 32) (v := v2 + 1) (lv' := [(2, .int (v2 + 1)), (1, .int x1), (0, .ref (xa E v0))]) 2 dX2_fallen_32 rfl (by rw [ci_1]) (Nat.le_of_ble_eq_true rfl) rfl ?_
        refine r_goto (pc := 35) 4 dX2_fallen_35 (by decide) ?_
        refine r_sub [2, 1, 0] rfl ?_
        exact ih v0 x1 (v2 + 1) n_v0 k_v0 h
      · refine r_iconst (pc := 25) dX2_fallen_25 ci_1 ?_
        refine r_goto (pc := 26) 30 dX2_fallen_26 (by decide) ?_
        refine r_iadd (pc := 30) dX2_fallen_30 ?_
        refine g_bi h (fun x2 ex2 h => ?_)
        refine r_istore_n (pc := 31) (lv' := [(1, .int x2), (0, .ref (xa E v0)), (2, .int v2)]) dX2_fallen_31 rfl (Nat.le_of_ble_eq_true rfl) rfl ?_
        refine r_iinc (pc := 32) (v := v2 + 1) (lv' := [(2, .int (v2 + 1)), (1, .int x2), (0, .ref (xa E v0))]) 2 dX2_fallen_32 rfl (by rw [ci_1]) (Nat.le_of_ble_eq_true rfl) rfl ?_
        refine r_goto (pc := 35) 4 dX2_fallen_35 (by decide) ?_
        refine r_sub [2, 1, 0] rfl ?_
        exact ih v0 x2 (v2 + 1) n_v0 k_v0 h
def fX2_fallen (σ : Mem) (v0 : Nat) : Option Int32 :=
  fX2_fallen_4 300 σ v0 0 0
set_option maxHeartbeats 4000000 in
set_option maxRecDepth 20000 in
theorem gX2_fallen (E : XE) {r : Int32} (σ : Mem) (v0 : Nat) (n_v0 : v0 < LX.1) (k_v0 : LX.2.1 v0 = 2) (h : fX2_fallen σ v0 = some r) : G E LX qX2_fallen σ 0 [(0, .ref (xa E v0))] [] (some r, σ) := by
  unfold fX2_fallen at h
  refine r_iconst (pc := 0) dX2_fallen_0 ci_0 ?_
  refine r_istore_n (pc := 1) (lv' := [(1, .int 0), (0, .ref (xa E v0))]) dX2_fallen_1 rfl (Nat.le_of_ble_eq_true rfl) rfl ?_
  refine r_iconst (pc := 2) dX2_fallen_2 ci_0 ?_
  refine r_istore_n (pc := 3) (lv' := [(2, .int 0), (1, .int 0), (0, .ref (xa E v0))]) dX2_fallen_3 rfl (Nat.le_of_ble_eq_true rfl) rfl ?_
  refine r_sub [2, 1, 0] rfl ?_
  exact gX2_fallen_4 E 300 σ v0 0 0 n_v0 k_v0 h
theorem ceX2_fallen (l : Launch) (d : SD) (σ : Mem) (v0 : Nat) (n_v0 : v0 < LX.1) (k_v0 : LX.2.1 v0 = 2) {r : Int32} (h : fX2_fallen σ v0 = some r) : Me l d LX yX2_fallen qX2_fallen σ [.ref (d.2.2.1 v0)] (some r, σ) := me_of (avs := fun d => [.ref (d.2.2.1 v0)]) (by decide) rfl (Nat.le_of_ble_eq_true rfl) (fun E => gX2_fallen E σ v0 n_v0 k_v0 h)
def fX2_houses_4  : Nat → Mem → Nat → Int32 → Int32 → Option Int32
  | 0, _, _, _, _ => none
  | n + 1, σ, v0, v1, v2 =>
    if σ v0 1 ≤ v2 then
      (some (v1))
    else
      (if inb v2 10 = true then
      (bi (v1 + (σ (rfX (rfX v0 0) v2.toNatClampNeg) 2)) (fun x1 =>
      fX2_houses_4 n σ v0 x1 (v2 + 1)))
      else none)
set_option maxHeartbeats 4000000 in
set_option maxRecDepth 20000 in
theorem gX2_houses_4 (E : XE)  {r : Int32}  (n : Nat) (σ : Mem) : ∀ (v0 : Nat) (v1 : Int32) (v2 : Int32), v0 < LX.1 → LX.2.1 v0 = 2 → fX2_houses_4 n σ v0 v1 v2 = some r → G E LX qX2_houses σ 4 [(0, .ref (xa E v0)), (1, .int v1), (2, .int v2)] [] (some r, σ) := by
  induction n with
  | zero => intro v0 v1 v2 n_v0 k_v0 h; cases h
  | succ n ih =>
    intro v0 v1 v2 n_v0 k_v0 h
    unfold fX2_houses_4 at h
    refine r_iload_n (pc := 4) 2 dX2_houses_4 rfl rfl ?_
    refine r_aload_n (pc := 5) 0 dX2_houses_5 rfl rfl ?_
    refine r_getI (pc := 6) (i := v0) fdRX2_18 n_v0 k_v0 (by decide) dX2_houses_6 ?_
    refine r_icmp_ge (pc := 9) 30 dX2_houses_9 (by decide) h (fun c1 h => ?_) (fun c1 h => ?_)
    · refine r_iload_n (pc := 30) 1 dX2_houses_30 rfl rfl ?_
      exact r_iret (pc := 31) rfl dX2_houses_31 (Option.some.inj h) rfl
    · refine r_iload_n (pc := 12) 1 dX2_houses_12 rfl rfl ?_
      refine r_aload_n (pc := 13) 0 dX2_houses_13 rfl rfl ?_
      refine r_getR (pc := 14) (i := v0) (j := rfX v0 0) fdRX2_11 n_v0 k_v0 (by decide) rfl dX2_houses_14 ?_
      refine r_iload_n (pc := 17) 2 dX2_houses_17 rfl rfl ?_
      refine inb_k h (fun b1 h => ?_)
      refine r_aald14 (pc := 18) (i := rfX v0 0) (v2.toNatClampNeg) (rfX (rfX v0 0) v2.toNatClampNeg) rfl (rlLX_2_0 n_v0 k_v0).1 (rlLX_2_0 n_v0 k_v0).2.1 (rlLX_2_0 n_v0 k_v0).2.2 rfl b1 dX2_houses_18 ?_
      refine r_getI (pc := 19) (i := rfX (rfX v0 0) v2.toNatClampNeg) fdRX2_36 (elLX_14 (rlLX_2_0 n_v0 k_v0).1 (rlLX_2_0 n_v0 k_v0).2.1 (inb_lt b1)).1 (elLX_14 (rlLX_2_0 n_v0 k_v0).1 (rlLX_2_0 n_v0 k_v0).2.1 (inb_lt b1)).2 (by decide) dX2_houses_19 ?_
      refine r_iadd (pc := 22) dX2_houses_22 ?_
      refine g_bi h (fun x1 ex1 h => ?_)
      refine r_istore_n (pc := 23) (lv' := [(1, .int x1), (0, .ref (xa E v0)), (2, .int v2)]) dX2_houses_23 rfl (Nat.le_of_ble_eq_true rfl) rfl ?_
      refine r_iinc (pc := 24) (v := v2 + 1) (lv' := [(2, .int (v2 + 1)), (1, .int x1), (0, .ref (xa E v0))]) 2 dX2_houses_24 rfl (by rw [ci_1]) (Nat.le_of_ble_eq_true rfl) rfl ?_
      refine r_goto (pc := 27) 4 dX2_houses_27 (by decide) ?_
      refine r_sub [2, 1, 0] rfl ?_
      exact ih v0 x1 (v2 + 1) n_v0 k_v0 h
def fX2_houses (σ : Mem) (v0 : Nat) : Option Int32 :=
  fX2_houses_4 300 σ v0 0 0
set_option maxHeartbeats 4000000 in
set_option maxRecDepth 20000 in
theorem gX2_houses (E : XE) {r : Int32} (σ : Mem) (v0 : Nat) (n_v0 : v0 < LX.1) (k_v0 : LX.2.1 v0 = 2) (h : fX2_houses σ v0 = some r) : G E LX qX2_houses σ 0 [(0, .ref (xa E v0))] [] (some r, σ) := by
  unfold fX2_houses at h
  refine r_iconst (pc := 0) dX2_houses_0 ci_0 ?_
  refine r_istore_n (pc := 1) (lv' := [(1, .int 0), (0, .ref (xa E v0))]) dX2_houses_1 rfl (Nat.le_of_ble_eq_true rfl) rfl ?_
  refine r_iconst (pc := 2) dX2_houses_2 ci_0 ?_
  refine r_istore_n (pc := 3) (lv' := [(2, .int 0), (1, .int 0), (0, .ref (xa E v0))]) dX2_houses_3 rfl (Nat.le_of_ble_eq_true rfl) rfl ?_
  refine r_sub [2, 1, 0] rfl ?_
  exact gX2_houses_4 E 300 σ v0 0 0 n_v0 k_v0 h
theorem ceX2_houses (l : Launch) (d : SD) (σ : Mem) (v0 : Nat) (n_v0 : v0 < LX.1) (k_v0 : LX.2.1 v0 = 2) {r : Int32} (h : fX2_houses σ v0 = some r) : Me l d LX yX2_houses qX2_houses σ [.ref (d.2.2.1 v0)] (some r, σ) := me_of (avs := fun d => [.ref (d.2.2.1 v0)]) (by decide) rfl (Nat.le_of_ble_eq_true rfl) (fun E => gX2_houses E σ v0 n_v0 k_v0 h)
def fX2_hasDraw_2  : Nat → Mem → Nat → Int32 → Option Int32
  | 0, _, _, _ => none
  | n + 1, σ, v0, v1 =>
    if σ v0 1 ≤ v1 then
      (some (0))
    else
      (if inb v1 10 = true then
      (if σ (rfX (rfX v0 0) v1.toNatClampNeg) 0 = 3 then
        (if inb v1 10 = true then
        (if fX0_isFallen σ (rfX (rfX v0 0) v1.toNatClampNeg) = 0 then
          (some (1))
        else
          (fX2_hasDraw_2 n σ v0 (v1 + 1)))
        else none)
      else
        (fX2_hasDraw_2 n σ v0 (v1 + 1)))
      else none)
set_option maxHeartbeats 4000000 in
set_option maxRecDepth 20000 in
theorem gX2_hasDraw_2 (E : XE)  {r : Int32}  (n : Nat) (σ : Mem) : ∀ (v0 : Nat) (v1 : Int32), v0 < LX.1 → LX.2.1 v0 = 2 → fX2_hasDraw_2 n σ v0 v1 = some r → G E LX qX2_hasDraw σ 2 [(0, .ref (xa E v0)), (1, .int v1)] [] (some r, σ) := by
  induction n with
  | zero => intro v0 v1 n_v0 k_v0 h; cases h
  | succ n ih =>
    intro v0 v1 n_v0 k_v0 h
    unfold fX2_hasDraw_2 at h
    refine r_iload_n (pc := 2) 1 dX2_hasDraw_2 rfl rfl ?_
    refine r_aload_n (pc := 3) 0 dX2_hasDraw_3 rfl rfl ?_
    refine r_getI (pc := 4) (i := v0) fdRX2_18 n_v0 k_v0 (by decide) dX2_hasDraw_4 ?_
    refine r_icmp_ge (pc := 7) 43 dX2_hasDraw_7 (by decide) h (fun c1 h => ?_) (fun c1 h => ?_)
    · refine r_iconst (pc := 43) dX2_hasDraw_43 ci_0 ?_
      exact r_zret (pc := 44) rfl rfl dX2_hasDraw_44 (Option.some.inj h) rfl
    · refine r_aload_n (pc := 10) 0 dX2_hasDraw_10 rfl rfl ?_
      refine r_getR (pc := 11) (i := v0) (j := rfX v0 0) fdRX2_11 n_v0 k_v0 (by decide) rfl dX2_hasDraw_11 ?_
      refine r_iload_n (pc := 14) 1 dX2_hasDraw_14 rfl rfl ?_
      refine inb_k h (fun b1 h => ?_)
      refine r_aald14 (pc := 15) (i := rfX v0 0) (v1.toNatClampNeg) (rfX (rfX v0 0) v1.toNatClampNeg) rfl (rlLX_2_0 n_v0 k_v0).1 (rlLX_2_0 n_v0 k_v0).2.1 (rlLX_2_0 n_v0 k_v0).2.2 rfl b1 dX2_hasDraw_15 ?_
      refine r_getI (pc := 16) (i := rfX (rfX v0 0) v1.toNatClampNeg) fdRX2_26 (elLX_14 (rlLX_2_0 n_v0 k_v0).1 (rlLX_2_0 n_v0 k_v0).2.1 (inb_lt b1)).1 (elLX_14 (rlLX_2_0 n_v0 k_v0).1 (rlLX_2_0 n_v0 k_v0).2.1 (inb_lt b1)).2 (by decide) dX2_hasDraw_16 ?_
      refine r_iconst (pc := 19) dX2_hasDraw_19 ci_3 ?_
      refine r_icmp_ne (pc := 20) 37 dX2_hasDraw_20 (by decide) h (fun c2 h => ?_) (fun c2 h => ?_)
      · refine r_aload_n (pc := 23) 0 dX2_hasDraw_23 rfl rfl ?_
        refine r_getR (pc := 24) (i := v0) (j := rfX v0 0) fdRX2_11 n_v0 k_v0 (by decide) rfl dX2_hasDraw_24 ?_
        refine r_iload_n (pc := 27) 1 dX2_hasDraw_27 rfl rfl ?_
        refine inb_k h (fun b2 h => ?_)
        refine r_aald14 (pc := 28) (i := rfX v0 0) (v1.toNatClampNeg) (rfX (rfX v0 0) v1.toNatClampNeg) rfl (rlLX_2_0 n_v0 k_v0).1 (rlLX_2_0 n_v0 k_v0).2.1 (rlLX_2_0 n_v0 k_v0).2.2 rfl b2 dX2_hasDraw_28 ?_
        refine r_callV (pc := 29) (i := rfX (rfX v0 0) v1.toNatClampNeg) (As := []) (rest := []) lkRX2_32 (ceX0_isFallen _ _ σ (rfX (rfX v0 0) v1.toNatClampNeg) (elLX_14 (rlLX_2_0 n_v0 k_v0).1 (rlLX_2_0 n_v0 k_v0).2.1 (inb_lt b2)).1 (elLX_14 (rlLX_2_0 n_v0 k_v0).1 (rlLX_2_0 n_v0 k_v0).2.1 (inb_lt b2)).2 rfl) (elLX_14 (rlLX_2_0 n_v0 k_v0).1 (rlLX_2_0 n_v0 k_v0).2.1 (inb_lt b2)).1 (elLX_14 (rlLX_2_0 n_v0 k_v0).1 (rlLX_2_0 n_v0 k_v0).2.1 (inb_lt b2)).2 (by decide) rfl ⟨Nat.le_of_ble_eq_true rfl, Nat.le_of_ble_eq_true rfl⟩ rfl rfl (Nat.le_of_ble_eq_true rfl) dX2_hasDraw_29 rfl ?_
        refine r_if_ne (pc := 32) 37 dX2_hasDraw_32 (by decide) h (fun c3 h => ?_) (fun c3 h => ?_)
        · refine r_iconst (pc := 35) dX2_hasDraw_35 ci_1 ?_
          exact r_zret (pc := 36) rfl rfl dX2_hasDraw_36 (Option.some.inj h) rfl
        · refine r_iinc (pc := 37) (v := v1 + 1) (lv' := [(1, .int (v1 + 1)), (0, .ref (xa E v0))]) 1 dX2_hasDraw_37 rfl (by rw [ci_1]) (Nat.le_of_ble_eq_true rfl) rfl ?_
          refine r_goto (pc := 40) 2 dX2_hasDraw_40 (by decide) ?_
          refine r_sub [1, 0] rfl ?_
          exact ih v0 (v1 + 1) n_v0 k_v0 h
      · refine r_iinc (pc := 37) (v := v1 + 1) (lv' := [(1, .int (v1 + 1)), (0, .ref (xa E v0))]) 1 dX2_hasDraw_37 rfl (by rw [ci_1]) (Nat.le_of_ble_eq_true rfl) rfl ?_
        refine r_goto (pc := 40) 2 dX2_hasDraw_40 (by decide) ?_
        refine r_sub [1, 0] rfl ?_
        exact ih v0 (v1 + 1) n_v0 k_v0 h
def fX2_hasDraw (σ : Mem) (v0 : Nat) : Option Int32 :=
  fX2_hasDraw_2 300 σ v0 0
set_option maxHeartbeats 4000000 in
set_option maxRecDepth 20000 in
theorem gX2_hasDraw (E : XE) {r : Int32} (σ : Mem) (v0 : Nat) (n_v0 : v0 < LX.1) (k_v0 : LX.2.1 v0 = 2) (h : fX2_hasDraw σ v0 = some r) : G E LX qX2_hasDraw σ 0 [(0, .ref (xa E v0))] [] (some r, σ) := by
  unfold fX2_hasDraw at h
  refine r_iconst (pc := 0) dX2_hasDraw_0 ci_0 ?_
  refine r_istore_n (pc := 1) (lv' := [(1, .int 0), (0, .ref (xa E v0))]) dX2_hasDraw_1 rfl (Nat.le_of_ble_eq_true rfl) rfl ?_
  refine r_sub [1, 0] rfl ?_
  exact gX2_hasDraw_2 E 300 σ v0 0 n_v0 k_v0 h
theorem ceX2_hasDraw (l : Launch) (d : SD) (σ : Mem) (v0 : Nat) (n_v0 : v0 < LX.1) (k_v0 : LX.2.1 v0 = 2) {r : Int32} (h : fX2_hasDraw σ v0 = some r) : Me l d LX yX2_hasDraw qX2_hasDraw σ [.ref (d.2.2.1 v0)] (some r, σ) := me_of (avs := fun d => [.ref (d.2.2.1 v0)]) (by decide) rfl (Nat.le_of_ble_eq_true rfl) (fun E => gX2_hasDraw E σ v0 n_v0 k_v0 h)
def fX2_blocked_30  (σ : Mem) (v0 : Nat) (v1 : Int32) : Option Int32 :=
  bo (fX2_fallen σ v0) (fun z1 =>
  some (v1 + z1))
set_option maxHeartbeats 4000000 in
set_option maxRecDepth 20000 in
theorem gX2_blocked_30 (E : XE)  {r : Int32}  (σ : Mem) (v0 : Nat) (v1 : Int32) (n_v0 : v0 < LX.1) (k_v0 : LX.2.1 v0 = 2) (h : fX2_blocked_30 σ v0 v1 = some r) : G E LX qX2_blocked σ 30 [(0, .ref (xa E v0)), (1, .int v1)] [] (some r, σ) := by
  unfold fX2_blocked_30 at h
  refine r_iload_n (pc := 30) 1 dX2_blocked_30 rfl rfl ?_
  refine r_aload_n (pc := 31) 0 dX2_blocked_31 rfl rfl ?_
  refine bo_k h (fun z1 hz1 h => ?_)
  refine r_callV (pc := 32) (i := v0) (As := []) (rest := [.int v1]) lkRX2_42 (ceX2_fallen _ _ σ v0 n_v0 k_v0 hz1) n_v0 k_v0 (by decide) rfl ⟨Nat.le_of_ble_eq_true rfl, Nat.le_of_ble_eq_true rfl⟩ rfl rfl (Nat.le_of_ble_eq_true rfl) dX2_blocked_32 rfl ?_
  refine r_iadd (pc := 35) dX2_blocked_35 ?_
  exact r_iret (pc := 36) rfl dX2_blocked_36 (Option.some.inj h) rfl
def fX2_blocked_4  : Nat → Mem → Nat → Int32 → Int32 → Option Int32
  | 0, _, _, _, _ => none
  | n + 1, σ, v0, v1, v2 =>
    if σ v0 1 ≤ v2 then
      (fX2_blocked_30 σ v0 v1)
    else
      (if inb v2 10 = true then
      (bi (v1 + (σ (rfX (rfX v0 0) v2.toNatClampNeg) 3)) (fun x1 =>
      fX2_blocked_4 n σ v0 x1 (v2 + 1)))
      else none)
set_option maxHeartbeats 4000000 in
set_option maxRecDepth 20000 in
theorem gX2_blocked_4 (E : XE)  {r : Int32}  (n : Nat) (σ : Mem) : ∀ (v0 : Nat) (v1 : Int32) (v2 : Int32), v0 < LX.1 → LX.2.1 v0 = 2 → fX2_blocked_4 n σ v0 v1 v2 = some r → G E LX qX2_blocked σ 4 [(0, .ref (xa E v0)), (1, .int v1), (2, .int v2)] [] (some r, σ) := by
  induction n with
  | zero => intro v0 v1 v2 n_v0 k_v0 h; cases h
  | succ n ih =>
    intro v0 v1 v2 n_v0 k_v0 h
    unfold fX2_blocked_4 at h
    refine r_iload_n (pc := 4) 2 dX2_blocked_4 rfl rfl ?_
    refine r_aload_n (pc := 5) 0 dX2_blocked_5 rfl rfl ?_
    refine r_getI (pc := 6) (i := v0) fdRX2_18 n_v0 k_v0 (by decide) dX2_blocked_6 ?_
    refine r_icmp_ge (pc := 9) 30 dX2_blocked_9 (by decide) h (fun c1 h => ?_) (fun c1 h => ?_)
    · refine r_sub [0, 1] rfl ?_
      exact gX2_blocked_30 E σ v0 v1 n_v0 k_v0 h
    · refine r_iload_n (pc := 12) 1 dX2_blocked_12 rfl rfl ?_
      refine r_aload_n (pc := 13) 0 dX2_blocked_13 rfl rfl ?_
      refine r_getR (pc := 14) (i := v0) (j := rfX v0 0) fdRX2_11 n_v0 k_v0 (by decide) rfl dX2_blocked_14 ?_
      refine r_iload_n (pc := 17) 2 dX2_blocked_17 rfl rfl ?_
      refine inb_k h (fun b1 h => ?_)
      refine r_aald14 (pc := 18) (i := rfX v0 0) (v2.toNatClampNeg) (rfX (rfX v0 0) v2.toNatClampNeg) rfl (rlLX_2_0 n_v0 k_v0).1 (rlLX_2_0 n_v0 k_v0).2.1 (rlLX_2_0 n_v0 k_v0).2.2 rfl b1 dX2_blocked_18 ?_
      refine r_getI (pc := 19) (i := rfX (rfX v0 0) v2.toNatClampNeg) fdRX2_39 (elLX_14 (rlLX_2_0 n_v0 k_v0).1 (rlLX_2_0 n_v0 k_v0).2.1 (inb_lt b1)).1 (elLX_14 (rlLX_2_0 n_v0 k_v0).1 (rlLX_2_0 n_v0 k_v0).2.1 (inb_lt b1)).2 (by decide) dX2_blocked_19 ?_
      refine r_iadd (pc := 22) dX2_blocked_22 ?_
      refine g_bi h (fun x1 ex1 h => ?_)
      refine r_istore_n (pc := 23) (lv' := [(1, .int x1), (0, .ref (xa E v0)), (2, .int v2)]) dX2_blocked_23 rfl (Nat.le_of_ble_eq_true rfl) rfl ?_
      refine r_iinc (pc := 24) (v := v2 + 1) (lv' := [(2, .int (v2 + 1)), (1, .int x1), (0, .ref (xa E v0))]) 2 dX2_blocked_24 rfl (by rw [ci_1]) (Nat.le_of_ble_eq_true rfl) rfl ?_
      refine r_goto (pc := 27) 4 dX2_blocked_27 (by decide) ?_
      refine r_sub [2, 1, 0] rfl ?_
      exact ih v0 x1 (v2 + 1) n_v0 k_v0 h
def fX2_blocked (σ : Mem) (v0 : Nat) : Option Int32 :=
  fX2_blocked_4 300 σ v0 0 0
set_option maxHeartbeats 4000000 in
set_option maxRecDepth 20000 in
theorem gX2_blocked (E : XE) {r : Int32} (σ : Mem) (v0 : Nat) (n_v0 : v0 < LX.1) (k_v0 : LX.2.1 v0 = 2) (h : fX2_blocked σ v0 = some r) : G E LX qX2_blocked σ 0 [(0, .ref (xa E v0))] [] (some r, σ) := by
  unfold fX2_blocked at h
  refine r_iconst (pc := 0) dX2_blocked_0 ci_0 ?_
  refine r_istore_n (pc := 1) (lv' := [(1, .int 0), (0, .ref (xa E v0))]) dX2_blocked_1 rfl (Nat.le_of_ble_eq_true rfl) rfl ?_
  refine r_iconst (pc := 2) dX2_blocked_2 ci_0 ?_
  refine r_istore_n (pc := 3) (lv' := [(2, .int 0), (1, .int 0), (0, .ref (xa E v0))]) dX2_blocked_3 rfl (Nat.le_of_ble_eq_true rfl) rfl ?_
  refine r_sub [2, 1, 0] rfl ?_
  exact gX2_blocked_4 E 300 σ v0 0 0 n_v0 k_v0 h
theorem ceX2_blocked (l : Launch) (d : SD) (σ : Mem) (v0 : Nat) (n_v0 : v0 < LX.1) (k_v0 : LX.2.1 v0 = 2) {r : Int32} (h : fX2_blocked σ v0 = some r) : Me l d LX yX2_blocked qX2_blocked σ [.ref (d.2.2.1 v0)] (some r, σ) := me_of (avs := fun d => [.ref (d.2.2.1 v0)]) (by decide) rfl (Nat.le_of_ble_eq_true rfl) (fun E => gX2_blocked E σ v0 n_v0 k_v0 h)
def fX2_sufferYear_7  : Nat → Mem → Nat → Int32 → Int32 → Int32 → Option Mem
  | 0, _, _, _, _, _ => none
  | n + 1, σ, v0, v1, v2, v3 =>
    if σ v0 1 ≤ v3 then
      (some σ)
    else
      (if inb v3 10 = true then
      (if inb v3 10 = true then
      (bo (fX0_weaken σ (rfX (rfX v0 0) v3.toNatClampNeg) (fX0_loss σ (rfX (rfX v0 0) v3.toNatClampNeg) v1 v2)) (fun z1 =>
      fX2_sufferYear_7 n z1 v0 v1 v2 (v3 + 1)))
      else none)
      else none)
set_option maxHeartbeats 4000000 in
set_option maxRecDepth 20000 in
theorem gX2_sufferYear_7 (E : XE)  {r : Mem}  : ∀ (n : Nat) (σ : Mem) (v0 : Nat) (v1 : Int32) (v2 : Int32) (v3 : Int32), v0 < LX.1 → LX.2.1 v0 = 2 → fX2_sufferYear_7 n σ v0 v1 v2 v3 = some r → G E LX qX2_sufferYear σ 7 [(0, .ref (xa E v0)), (1, .int v1), (2, .int v2), (3, .int v3)] [] (none, r) := by
  intro n
  induction n with
  | zero => intro σ v0 v1 v2 v3 n_v0 k_v0 h; cases h
  | succ n ih =>
    intro σ v0 v1 v2 v3 n_v0 k_v0 h
    unfold fX2_sufferYear_7 at h
    refine r_iload_n (pc := 7) 3 dX2_sufferYear_7 rfl rfl ?_
    refine r_aload_n (pc := 8) 0 dX2_sufferYear_8 rfl rfl ?_
    refine r_getI (pc := 9) (i := v0) fdRX2_18 n_v0 k_v0 (by decide) dX2_sufferYear_9 ?_
    refine r_icmp_ge (pc := 12) 41 dX2_sufferYear_12 (by decide) h (fun c1 h => ?_) (fun c1 h => ?_)
    · exact r_vret (pc := 41) rfl dX2_sufferYear_41 (Option.some.inj h)
    · refine r_aload_n (pc := 15) 0 dX2_sufferYear_15 rfl rfl ?_
      refine r_getR (pc := 16) (i := v0) (j := rfX v0 0) fdRX2_11 n_v0 k_v0 (by decide) rfl dX2_sufferYear_16 ?_
      refine r_iload_n (pc := 19) 3 dX2_sufferYear_19 rfl rfl ?_
      refine inb_k h (fun b1 h => ?_)
      refine r_aald14 (pc := 20) (i := rfX v0 0) (v3.toNatClampNeg) (rfX (rfX v0 0) v3.toNatClampNeg) rfl (rlLX_2_0 n_v0 k_v0).1 (rlLX_2_0 n_v0 k_v0).2.1 (rlLX_2_0 n_v0 k_v0).2.2 rfl b1 dX2_sufferYear_20 ?_
      refine r_aload_n (pc := 21) 0 dX2_sufferYear_21 rfl rfl ?_
      refine r_getR (pc := 22) (i := v0) (j := rfX v0 0) fdRX2_11 n_v0 k_v0 (by decide) rfl dX2_sufferYear_22 ?_
      refine r_iload_n (pc := 25) 3 dX2_sufferYear_25 rfl rfl ?_
      refine inb_k h (fun b2 h => ?_)
      refine r_aald14 (pc := 26) (i := rfX v0 0) (v3.toNatClampNeg) (rfX (rfX v0 0) v3.toNatClampNeg) rfl (rlLX_2_0 n_v0 k_v0).1 (rlLX_2_0 n_v0 k_v0).2.1 (rlLX_2_0 n_v0 k_v0).2.2 rfl b2 dX2_sufferYear_26 ?_
      refine r_iload_n (pc := 27) 1 dX2_sufferYear_27 rfl rfl ?_
      refine r_iload_n (pc := 28) 2 dX2_sufferYear_28 rfl rfl ?_
      refine r_callV (pc := 29) (i := rfX (rfX v0 0) v3.toNatClampNeg) (As := [.int v1, .int v2]) (rest := [.ref (xa E (rfX (rfX v0 0) v3.toNatClampNeg))]) lkRX2_49 (ceX0_loss _ _ σ (rfX (rfX v0 0) v3.toNatClampNeg) v1 v2 (elLX_14 (rlLX_2_0 n_v0 k_v0).1 (rlLX_2_0 n_v0 k_v0).2.1 (inb_lt b2)).1 (elLX_14 (rlLX_2_0 n_v0 k_v0).1 (rlLX_2_0 n_v0 k_v0).2.1 (inb_lt b2)).2 rfl) (elLX_14 (rlLX_2_0 n_v0 k_v0).1 (rlLX_2_0 n_v0 k_v0).2.1 (inb_lt b2)).1 (elLX_14 (rlLX_2_0 n_v0 k_v0).1 (rlLX_2_0 n_v0 k_v0).2.1 (inb_lt b2)).2 (by decide) rfl ⟨Nat.le_of_ble_eq_true rfl, Nat.le_of_ble_eq_true rfl⟩ rfl rfl (Nat.le_of_ble_eq_true rfl) dX2_sufferYear_29 rfl ?_
      refine bo_k h (fun z1 hz1 h => ?_)
      refine r_callV (pc := 32) (i := rfX (rfX v0 0) v3.toNatClampNeg) (As := [.int (fX0_loss σ (rfX (rfX v0 0) v3.toNatClampNeg) v1 v2)]) (rest := []) lkRX2_53 (ceX0_weaken _ _ σ (rfX (rfX v0 0) v3.toNatClampNeg) (fX0_loss σ (rfX (rfX v0 0) v3.toNatClampNeg) v1 v2) (elLX_14 (rlLX_2_0 n_v0 k_v0).1 (rlLX_2_0 n_v0 k_v0).2.1 (inb_lt b1)).1 (elLX_14 (rlLX_2_0 n_v0 k_v0).1 (rlLX_2_0 n_v0 k_v0).2.1 (inb_lt b1)).2 hz1) (elLX_14 (rlLX_2_0 n_v0 k_v0).1 (rlLX_2_0 n_v0 k_v0).2.1 (inb_lt b1)).1 (elLX_14 (rlLX_2_0 n_v0 k_v0).1 (rlLX_2_0 n_v0 k_v0).2.1 (inb_lt b1)).2 (by decide) rfl ⟨Nat.le_of_ble_eq_true rfl, Nat.le_of_ble_eq_true rfl⟩ rfl rfl (Nat.le_of_ble_eq_true rfl) dX2_sufferYear_32 rfl ?_
      refine r_iinc (pc := 35) (v := v3 + 1) (lv' := [(3, .int (v3 + 1)), (0, .ref (xa E v0)), (1, .int v1), (2, .int v2)]) 3 dX2_sufferYear_35 rfl (by rw [ci_1]) (Nat.le_of_ble_eq_true rfl) rfl ?_
      refine r_goto (pc := 38) 7 dX2_sufferYear_38 (by decide) ?_
      refine r_sub [1, 2, 3, 0] rfl ?_
      exact ih z1 v0 v1 v2 (v3 + 1) n_v0 k_v0 h
def fX2_sufferYear (σ : Mem) (v0 : Nat) (v1 : Int32) : Option Mem :=
  bo (fX2_blocked σ v0) (fun z1 =>
  fX2_sufferYear_7 300 σ v0 v1 z1 0)
set_option maxHeartbeats 4000000 in
set_option maxRecDepth 20000 in
theorem gX2_sufferYear (E : XE) {r : Mem} (σ : Mem) (v0 : Nat) (v1 : Int32) (n_v0 : v0 < LX.1) (k_v0 : LX.2.1 v0 = 2) (h : fX2_sufferYear σ v0 v1 = some r) : G E LX qX2_sufferYear σ 0 [(0, .ref (xa E v0)), (1, .int v1)] [] (none, r) := by
  unfold fX2_sufferYear at h
  refine r_aload_n (pc := 0) 0 dX2_sufferYear_0 rfl rfl ?_
  refine bo_k h (fun z1 hz1 h => ?_)
  refine r_callV (pc := 1) (i := v0) (As := []) (rest := []) lkRX2_46 (ceX2_blocked _ _ σ v0 n_v0 k_v0 hz1) n_v0 k_v0 (by decide) rfl ⟨Nat.le_of_ble_eq_true rfl, Nat.le_of_ble_eq_true rfl⟩ rfl rfl (Nat.le_of_ble_eq_true rfl) dX2_sufferYear_1 rfl ?_
  refine r_istore_n (pc := 4) (lv' := [(2, .int z1), (0, .ref (xa E v0)), (1, .int v1)]) dX2_sufferYear_4 rfl (Nat.le_of_ble_eq_true rfl) rfl ?_
  refine r_iconst (pc := 5) dX2_sufferYear_5 ci_0 ?_
  refine r_istore_n (pc := 6) (lv' := [(3, .int 0), (2, .int z1), (0, .ref (xa E v0)), (1, .int v1)]) dX2_sufferYear_6 rfl (Nat.le_of_ble_eq_true rfl) rfl ?_
  refine r_sub [2, 3, 1, 0] rfl ?_
  exact gX2_sufferYear_7 E 300 σ v0 v1 z1 0 n_v0 k_v0 h
theorem ceX2_sufferYear (l : Launch) (d : SD) (σ : Mem) (v0 : Nat) (v1 : Int32) (n_v0 : v0 < LX.1) (k_v0 : LX.2.1 v0 = 2) {r : Mem} (h : fX2_sufferYear σ v0 v1 = some r) : Me l d LX yX2_sufferYear qX2_sufferYear σ [.ref (d.2.2.1 v0), .int v1] (none, r) := me_of (avs := fun d => [.ref (d.2.2.1 v0), .int v1]) (by decide) rfl (Nat.le_of_ble_eq_true rfl) (fun E => gX2_sufferYear E σ v0 v1 n_v0 k_v0 h)
def fX2_becomeLike_10  : Nat → Mem → Nat → Nat → Int32 → Option Mem
  | 0, _, _, _, _ => none
  | n + 1, σ, v0, v1, v2 =>
    if σ v0 1 ≤ v2 then
      (some σ)
    else
      (if inb v2 10 = true then
      (if inb v2 10 = true then
      (bo (fX0_becomeLike σ (rfX (rfX v0 0) v2.toNatClampNeg) (rfX (rfX v1 0) v2.toNatClampNeg)) (fun z1 =>
      fX2_becomeLike_10 n z1 v0 v1 (v2 + 1)))
      else none)
      else none)
set_option maxHeartbeats 4000000 in
set_option maxRecDepth 20000 in
theorem gX2_becomeLike_10 (E : XE)  {r : Mem}  : ∀ (n : Nat) (σ : Mem) (v0 : Nat) (v1 : Nat) (v2 : Int32), v0 < LX.1 → LX.2.1 v0 = 2 → v1 < LX.1 → LX.2.1 v1 = 2 → fX2_becomeLike_10 n σ v0 v1 v2 = some r → G E LX qX2_becomeLike σ 10 [(0, .ref (xa E v0)), (1, .ref (xa E v1)), (2, .int v2)] [] (none, r) := by
  intro n
  induction n with
  | zero => intro σ v0 v1 v2 n_v0 k_v0 n_v1 k_v1 h; cases h
  | succ n ih =>
    intro σ v0 v1 v2 n_v0 k_v0 n_v1 k_v1 h
    unfold fX2_becomeLike_10 at h
    refine r_iload_n (pc := 10) 2 dX2_becomeLike_10 rfl rfl ?_
    refine r_aload_n (pc := 11) 0 dX2_becomeLike_11 rfl rfl ?_
    refine r_getI (pc := 12) (i := v0) fdRX2_18 n_v0 k_v0 (by decide) dX2_becomeLike_12 ?_
    refine r_icmp_ge (pc := 15) 39 dX2_becomeLike_15 (by decide) h (fun c1 h => ?_) (fun c1 h => ?_)
    · exact r_vret (pc := 39) rfl dX2_becomeLike_39 (Option.some.inj h)
    · refine r_aload_n (pc := 18) 0 dX2_becomeLike_18 rfl rfl ?_
      refine r_getR (pc := 19) (i := v0) (j := rfX v0 0) fdRX2_11 n_v0 k_v0 (by decide) rfl dX2_becomeLike_19 ?_
      refine r_iload_n (pc := 22) 2 dX2_becomeLike_22 rfl rfl ?_
      refine inb_k h (fun b1 h => ?_)
      refine r_aald14 (pc := 23) (i := rfX v0 0) (v2.toNatClampNeg) (rfX (rfX v0 0) v2.toNatClampNeg) rfl (rlLX_2_0 n_v0 k_v0).1 (rlLX_2_0 n_v0 k_v0).2.1 (rlLX_2_0 n_v0 k_v0).2.2 rfl b1 dX2_becomeLike_23 ?_
      refine r_aload_n (pc := 24) 1 dX2_becomeLike_24 rfl rfl ?_
      refine r_getR (pc := 25) (i := v1) (j := rfX v1 0) fdRX2_11 n_v1 k_v1 (by decide) rfl dX2_becomeLike_25 ?_
      refine r_iload_n (pc := 28) 2 dX2_becomeLike_28 rfl rfl ?_
      refine inb_k h (fun b2 h => ?_)
      refine r_aald14 (pc := 29) (i := rfX v1 0) (v2.toNatClampNeg) (rfX (rfX v1 0) v2.toNatClampNeg) rfl (rlLX_2_0 n_v1 k_v1).1 (rlLX_2_0 n_v1 k_v1).2.1 (rlLX_2_0 n_v1 k_v1).2.2 rfl b2 dX2_becomeLike_29 ?_
      refine bo_k h (fun z1 hz1 h => ?_)
      refine r_callV (pc := 30) (i := rfX (rfX v0 0) v2.toNatClampNeg) (As := [.ref (xa E (rfX (rfX v1 0) v2.toNatClampNeg))]) (rest := []) lkRX2_57 (ceX0_becomeLike _ _ σ (rfX (rfX v0 0) v2.toNatClampNeg) (rfX (rfX v1 0) v2.toNatClampNeg) (elLX_14 (rlLX_2_0 n_v0 k_v0).1 (rlLX_2_0 n_v0 k_v0).2.1 (inb_lt b1)).1 (elLX_14 (rlLX_2_0 n_v0 k_v0).1 (rlLX_2_0 n_v0 k_v0).2.1 (inb_lt b1)).2 (elLX_14 (rlLX_2_0 n_v1 k_v1).1 (rlLX_2_0 n_v1 k_v1).2.1 (inb_lt b2)).1 (elLX_14 (rlLX_2_0 n_v1 k_v1).1 (rlLX_2_0 n_v1 k_v1).2.1 (inb_lt b2)).2 hz1) (elLX_14 (rlLX_2_0 n_v0 k_v0).1 (rlLX_2_0 n_v0 k_v0).2.1 (inb_lt b1)).1 (elLX_14 (rlLX_2_0 n_v0 k_v0).1 (rlLX_2_0 n_v0 k_v0).2.1 (inb_lt b1)).2 (by decide) rfl ⟨Nat.le_of_ble_eq_true rfl, Nat.le_of_ble_eq_true rfl⟩ rfl rfl (Nat.le_of_ble_eq_true rfl) dX2_becomeLike_30 rfl ?_
      refine r_iinc (pc := 33) (v := v2 + 1) (lv' := [(2, .int (v2 + 1)), (0, .ref (xa E v0)), (1, .ref (xa E v1))]) 2 dX2_becomeLike_33 rfl (by rw [ci_1]) (Nat.le_of_ble_eq_true rfl) rfl ?_
      refine r_goto (pc := 36) 10 dX2_becomeLike_36 (by decide) ?_
      refine r_sub [1, 2, 0] rfl ?_
      exact ih z1 v0 v1 (v2 + 1) n_v0 k_v0 n_v1 k_v1 h
def fX2_becomeLike (σ : Mem) (v0 : Nat) (v1 : Nat) : Option Mem :=
  bm (mset σ v0 1 (σ v1 1)) (fun m1 =>
  fX2_becomeLike_10 300 m1 v0 v1 0)
set_option maxHeartbeats 4000000 in
set_option maxRecDepth 20000 in
theorem gX2_becomeLike (E : XE) {r : Mem} (σ : Mem) (v0 : Nat) (v1 : Nat) (n_v0 : v0 < LX.1) (k_v0 : LX.2.1 v0 = 2) (n_v1 : v1 < LX.1) (k_v1 : LX.2.1 v1 = 2) (h : fX2_becomeLike σ v0 v1 = some r) : G E LX qX2_becomeLike σ 0 [(0, .ref (xa E v0)), (1, .ref (xa E v1))] [] (none, r) := by
  unfold fX2_becomeLike at h
  refine r_aload_n (pc := 0) 0 dX2_becomeLike_0 rfl rfl ?_
  refine r_aload_n (pc := 1) 1 dX2_becomeLike_1 rfl rfl ?_
  refine r_getI (pc := 2) (i := v1) fdRX2_18 n_v1 k_v1 (by decide) dX2_becomeLike_2 ?_
  refine r_putI (pc := 5) (i := v0) fpRX2_18 n_v0 k_v0 (by decide) rfl rfl dX2_becomeLike_5 ?_
  refine g_bm h (fun m1 em1 h => ?_)
  refine r_iconst (pc := 8) dX2_becomeLike_8 ci_0 ?_
  refine r_istore_n (pc := 9) (lv' := [(2, .int 0), (0, .ref (xa E v0)), (1, .ref (xa E v1))]) dX2_becomeLike_9 rfl (Nat.le_of_ble_eq_true rfl) rfl ?_
  refine r_sub [1, 2, 0] rfl ?_
  exact gX2_becomeLike_10 E 300 m1 v0 v1 0 n_v0 k_v0 n_v1 k_v1 h
theorem ceX2_becomeLike (l : Launch) (d : SD) (σ : Mem) (v0 : Nat) (v1 : Nat) (n_v0 : v0 < LX.1) (k_v0 : LX.2.1 v0 = 2) (n_v1 : v1 < LX.1) (k_v1 : LX.2.1 v1 = 2) {r : Mem} (h : fX2_becomeLike σ v0 v1 = some r) : Me l d LX yX2_becomeLike qX2_becomeLike σ [.ref (d.2.2.1 v0), .ref (d.2.2.1 v1)] (none, r) := me_of (avs := fun d => [.ref (d.2.2.1 v0), .ref (d.2.2.1 v1)]) (by decide) rfl (Nat.le_of_ble_eq_true rfl) (fun E => gX2_becomeLike E σ v0 v1 n_v0 k_v0 n_v1 k_v1 h)
def fX2_forgetChosen_2  : Nat → Mem → Nat → Int32 → Option Mem
  | 0, _, _, _ => none
  | n + 1, σ, v0, v1 =>
    if σ v0 1 ≤ v1 then
      (some σ)
    else
      (if inb v1 10 = true then
      (bm (mset σ (rfX (rfX v0 0) v1.toNatClampNeg) 5 0) (fun m1 =>
      fX2_forgetChosen_2 n m1 v0 (v1 + 1)))
      else none)
set_option maxHeartbeats 4000000 in
set_option maxRecDepth 20000 in
theorem gX2_forgetChosen_2 (E : XE)  {r : Mem}  : ∀ (n : Nat) (σ : Mem) (v0 : Nat) (v1 : Int32), v0 < LX.1 → LX.2.1 v0 = 2 → fX2_forgetChosen_2 n σ v0 v1 = some r → G E LX qX2_forgetChosen σ 2 [(0, .ref (xa E v0)), (1, .int v1)] [] (none, r) := by
  intro n
  induction n with
  | zero => intro σ v0 v1 n_v0 k_v0 h; cases h
  | succ n ih =>
    intro σ v0 v1 n_v0 k_v0 h
    unfold fX2_forgetChosen_2 at h
    refine r_iload_n (pc := 2) 1 dX2_forgetChosen_2 rfl rfl ?_
    refine r_aload_n (pc := 3) 0 dX2_forgetChosen_3 rfl rfl ?_
    refine r_getI (pc := 4) (i := v0) fdRX2_18 n_v0 k_v0 (by decide) dX2_forgetChosen_4 ?_
    refine r_icmp_ge (pc := 7) 26 dX2_forgetChosen_7 (by decide) h (fun c1 h => ?_) (fun c1 h => ?_)
    · exact r_vret (pc := 26) rfl dX2_forgetChosen_26 (Option.some.inj h)
    · refine r_aload_n (pc := 10) 0 dX2_forgetChosen_10 rfl rfl ?_
      refine r_getR (pc := 11) (i := v0) (j := rfX v0 0) fdRX2_11 n_v0 k_v0 (by decide) rfl dX2_forgetChosen_11 ?_
      refine r_iload_n (pc := 14) 1 dX2_forgetChosen_14 rfl rfl ?_
      refine inb_k h (fun b1 h => ?_)
      refine r_aald14 (pc := 15) (i := rfX v0 0) (v1.toNatClampNeg) (rfX (rfX v0 0) v1.toNatClampNeg) rfl (rlLX_2_0 n_v0 k_v0).1 (rlLX_2_0 n_v0 k_v0).2.1 (rlLX_2_0 n_v0 k_v0).2.2 rfl b1 dX2_forgetChosen_15 ?_
      refine r_iconst (pc := 16) dX2_forgetChosen_16 ci_0 ?_
      refine r_putI (pc := 17) (i := rfX (rfX v0 0) v1.toNatClampNeg) fpRX2_61 (elLX_14 (rlLX_2_0 n_v0 k_v0).1 (rlLX_2_0 n_v0 k_v0).2.1 (inb_lt b1)).1 (elLX_14 (rlLX_2_0 n_v0 k_v0).1 (rlLX_2_0 n_v0 k_v0).2.1 (inb_lt b1)).2 (by decide) rfl rfl dX2_forgetChosen_17 ?_
      refine g_bm h (fun m1 em1 h => ?_)
      refine r_iinc (pc := 20) (v := v1 + 1) (lv' := [(1, .int (v1 + 1)), (0, .ref (xa E v0))]) 1 dX2_forgetChosen_20 rfl (by rw [ci_1]) (Nat.le_of_ble_eq_true rfl) rfl ?_
      refine r_goto (pc := 23) 2 dX2_forgetChosen_23 (by decide) ?_
      refine r_sub [1, 0] rfl ?_
      exact ih m1 v0 (v1 + 1) n_v0 k_v0 h
def fX2_forgetChosen (σ : Mem) (v0 : Nat) : Option Mem :=
  fX2_forgetChosen_2 300 σ v0 0
set_option maxHeartbeats 4000000 in
set_option maxRecDepth 20000 in
theorem gX2_forgetChosen (E : XE) {r : Mem} (σ : Mem) (v0 : Nat) (n_v0 : v0 < LX.1) (k_v0 : LX.2.1 v0 = 2) (h : fX2_forgetChosen σ v0 = some r) : G E LX qX2_forgetChosen σ 0 [(0, .ref (xa E v0))] [] (none, r) := by
  unfold fX2_forgetChosen at h
  refine r_iconst (pc := 0) dX2_forgetChosen_0 ci_0 ?_
  refine r_istore_n (pc := 1) (lv' := [(1, .int 0), (0, .ref (xa E v0))]) dX2_forgetChosen_1 rfl (Nat.le_of_ble_eq_true rfl) rfl ?_
  refine r_sub [1, 0] rfl ?_
  exact gX2_forgetChosen_2 E 300 σ v0 0 n_v0 k_v0 h
theorem ceX2_forgetChosen (l : Launch) (d : SD) (σ : Mem) (v0 : Nat) (n_v0 : v0 < LX.1) (k_v0 : LX.2.1 v0 = 2) {r : Mem} (h : fX2_forgetChosen σ v0 = some r) : Me l d LX yX2_forgetChosen qX2_forgetChosen σ [.ref (d.2.2.1 v0)] (none, r) := me_of (avs := fun d => [.ref (d.2.2.1 v0)]) (by decide) rfl (Nat.le_of_ble_eq_true rfl) (fun E => gX2_forgetChosen E σ v0 n_v0 k_v0 h)
def fX2_weakestBelow_7  : Nat → Mem → Nat → Int32 → Int32 → Int32 → Option Int32
  | 0, _, _, _, _, _ => none
  | n + 1, σ, v0, v2, v3, v4 =>
    if σ v0 1 ≤ v4 then
      (some (v2))
    else
      (if inb v4 10 = true then
      (if fX0_isFallen σ (rfX (rfX v0 0) v4.toNatClampNeg) = 0 then
        (if σ (rfX (rfX v0 0) v4.toNatClampNeg) 5 = 0 then
          (if v3 ≤ σ (rfX (rfX v0 0) v4.toNatClampNeg) 1 then
            (fX2_weakestBelow_7 n σ v0 v2 v3 (v4 + 1))
          else
            (bi (σ (rfX (rfX v0 0) v4.toNatClampNeg) 1) (fun x1 =>
            fX2_weakestBelow_7 n σ v0 v4 x1 (v4 + 1))))
        else
          (fX2_weakestBelow_7 n σ v0 v2 v3 (v4 + 1)))
      else
        (fX2_weakestBelow_7 n σ v0 v2 v3 (v4 + 1)))
      else none)
set_option maxHeartbeats 4000000 in
set_option maxRecDepth 20000 in
theorem gX2_weakestBelow_7 (E : XE)  {r : Int32}  (n : Nat) (σ : Mem) : ∀ (v0 : Nat) (v2 : Int32) (v3 : Int32) (v4 : Int32), v0 < LX.1 → LX.2.1 v0 = 2 → fX2_weakestBelow_7 n σ v0 v2 v3 v4 = some r → G E LX qX2_weakestBelow σ 7 [(0, .ref (xa E v0)), (2, .int v2), (3, .int v3), (4, .int v4)] [] (some r, σ) := by
  induction n with
  | zero => intro v0 v2 v3 v4 n_v0 k_v0 h; cases h
  | succ n ih =>
    intro v0 v2 v3 v4 n_v0 k_v0 h
    unfold fX2_weakestBelow_7 at h
    refine r_iload (pc := 7) 3 dX2_weakestBelow_7 rfl ?_
    refine r_aload_n (pc := 9) 0 dX2_weakestBelow_9 rfl rfl ?_
    refine r_getI (pc := 10) (i := v0) fdRX2_18 n_v0 k_v0 (by decide) dX2_weakestBelow_10 ?_
    refine r_icmp_ge (pc := 13) 65 dX2_weakestBelow_13 (by decide) h (fun c1 h => ?_) (fun c1 h => ?_)
    · refine r_iload_n (pc := 65) 1 dX2_weakestBelow_65 rfl rfl ?_
      exact r_iret (pc := 66) rfl dX2_weakestBelow_66 (Option.some.inj h) rfl
    · refine r_aload_n (pc := 16) 0 dX2_weakestBelow_16 rfl rfl ?_
      refine r_getR (pc := 17) (i := v0) (j := rfX v0 0) fdRX2_11 n_v0 k_v0 (by decide) rfl dX2_weakestBelow_17 ?_
      refine r_iload (pc := 20) 3 dX2_weakestBelow_20 rfl ?_
      refine inb_k h (fun b1 h => ?_)
      refine r_aald14 (pc := 22) (i := rfX v0 0) (v4.toNatClampNeg) (rfX (rfX v0 0) v4.toNatClampNeg) rfl (rlLX_2_0 n_v0 k_v0).1 (rlLX_2_0 n_v0 k_v0).2.1 (rlLX_2_0 n_v0 k_v0).2.2 rfl b1 dX2_weakestBelow_22 ?_
      refine r_astore (pc := 23) (lv' := [(5, .ref (xa E (rfX (rfX v0 0) v4.toNatClampNeg))), (0, .ref (xa E v0)), (2, .int v2), (3, .int v3), (4, .int v4)]) dX2_weakestBelow_23 (Nat.le_of_ble_eq_true rfl) rfl ?_
      refine r_aload (pc := 25) 0 dX2_weakestBelow_25 rfl ?_
      refine r_callV (pc := 27) (i := rfX (rfX v0 0) v4.toNatClampNeg) (As := []) (rest := []) lkRX2_32 (ceX0_isFallen _ _ σ (rfX (rfX v0 0) v4.toNatClampNeg) (elLX_14 (rlLX_2_0 n_v0 k_v0).1 (rlLX_2_0 n_v0 k_v0).2.1 (inb_lt b1)).1 (elLX_14 (rlLX_2_0 n_v0 k_v0).1 (rlLX_2_0 n_v0 k_v0).2.1 (inb_lt b1)).2 rfl) (elLX_14 (rlLX_2_0 n_v0 k_v0).1 (rlLX_2_0 n_v0 k_v0).2.1 (inb_lt b1)).1 (elLX_14 (rlLX_2_0 n_v0 k_v0).1 (rlLX_2_0 n_v0 k_v0).2.1 (inb_lt b1)).2 (by decide) rfl ⟨Nat.le_of_ble_eq_true rfl, Nat.le_of_ble_eq_true rfl⟩ rfl rfl (Nat.le_of_ble_eq_true rfl) dX2_weakestBelow_27 rfl ?_
      refine r_if_ne (pc := 30) 59 dX2_weakestBelow_30 (by decide) h (fun c2 h => ?_) (fun c2 h => ?_)
      · refine r_aload (pc := 33) 0 dX2_weakestBelow_33 rfl ?_
        refine r_getI (pc := 35) (i := rfX (rfX v0 0) v4.toNatClampNeg) fdRX2_61 (elLX_14 (rlLX_2_0 n_v0 k_v0).1 (rlLX_2_0 n_v0 k_v0).2.1 (inb_lt b1)).1 (elLX_14 (rlLX_2_0 n_v0 k_v0).1 (rlLX_2_0 n_v0 k_v0).2.1 (inb_lt b1)).2 (by decide) dX2_weakestBelow_35 ?_
        refine r_if_ne (pc := 38) 59 dX2_weakestBelow_38 (by decide) h (fun c3 h => ?_) (fun c3 h => ?_)
        · refine r_aload (pc := 41) 0 dX2_weakestBelow_41 rfl ?_
          refine r_getI (pc := 43) (i := rfX (rfX v0 0) v4.toNatClampNeg) fdRX2_29 (elLX_14 (rlLX_2_0 n_v0 k_v0).1 (rlLX_2_0 n_v0 k_v0).2.1 (inb_lt b1)).1 (elLX_14 (rlLX_2_0 n_v0 k_v0).1 (rlLX_2_0 n_v0 k_v0).2.1 (inb_lt b1)).2 (by decide) dX2_weakestBelow_43 ?_
          refine r_iload_n (pc := 46) 3 dX2_weakestBelow_46 rfl rfl ?_
          refine r_icmp_ge (pc := 47) 59 dX2_weakestBelow_47 (by decide) h (fun c4 h => ?_) (fun c4 h => ?_)
          · refine r_iinc (pc := 59) (v := v4 + 1) (lv' := [(4, .int (v4 + 1)), (5, .ref (xa E (rfX (rfX v0 0) v4.toNatClampNeg))), (0, .ref (xa E v0)), (2, .int v2), (3, .int v3)]) 4 dX2_weakestBelow_59 rfl (by rw [ci_1]) (Nat.le_of_ble_eq_true rfl) rfl ?_
            refine r_goto (pc := 62) 7 dX2_weakestBelow_62 (by decide) ?_
            refine r_sub [2, 3, 4, 0] rfl ?_
            exact ih v0 v2 v3 (v4 + 1) n_v0 k_v0 h
          · refine r_iload (pc := 50) 4 dX2_weakestBelow_50 rfl ?_
            refine r_istore_n (pc := 52) (lv' := [(2, .int v4), (5, .ref (xa E (rfX (rfX v0 0) v4.toNatClampNeg))), (0, .ref (xa E v0)), (3, .int v3), (4, .int v4)]) dX2_weakestBelow_52 rfl (Nat.le_of_ble_eq_true rfl) rfl ?_
            refine r_aload (pc := 53) 1 dX2_weakestBelow_53 rfl ?_
            refine r_getI (pc := 55) (i := rfX (rfX v0 0) v4.toNatClampNeg) fdRX2_29 (elLX_14 (rlLX_2_0 n_v0 k_v0).1 (rlLX_2_0 n_v0 k_v0).2.1 (inb_lt b1)).1 (elLX_14 (rlLX_2_0 n_v0 k_v0).1 (rlLX_2_0 n_v0 k_v0).2.1 (inb_lt b1)).2 (by decide) dX2_weakestBelow_55 ?_
            refine g_bi h (fun x1 ex1 h => ?_)
            refine r_istore_n (pc := 58) (lv' := [(3, .int x1), (2, .int v4), (5, .ref (xa E (rfX (rfX v0 0) v4.toNatClampNeg))), (0, .ref (xa E v0)), (4, .int v4)]) dX2_weakestBelow_58 rfl (Nat.le_of_ble_eq_true rfl) rfl ?_
            refine r_iinc (pc := 59) (v := v4 + 1) (lv' := [(4, .int (v4 + 1)), (3, .int x1), (2, .int v4), (5, .ref (xa E (rfX (rfX v0 0) v4.toNatClampNeg))), (0, .ref (xa E v0))]) 4 dX2_weakestBelow_59 rfl (by rw [ci_1]) (Nat.le_of_ble_eq_true rfl) rfl ?_
            refine r_goto (pc := 62) 7 dX2_weakestBelow_62 (by decide) ?_
            refine r_sub [4, 2, 1, 0] rfl ?_
            exact ih v0 v4 x1 (v4 + 1) n_v0 k_v0 h
        · refine r_iinc (pc := 59) (v := v4 + 1) (lv' := [(4, .int (v4 + 1)), (5, .ref (xa E (rfX (rfX v0 0) v4.toNatClampNeg))), (0, .ref (xa E v0)), (2, .int v2), (3, .int v3)]) 4 dX2_weakestBelow_59 rfl (by rw [ci_1]) (Nat.le_of_ble_eq_true rfl) rfl ?_
          refine r_goto (pc := 62) 7 dX2_weakestBelow_62 (by decide) ?_
          refine r_sub [2, 3, 4, 0] rfl ?_
          exact ih v0 v2 v3 (v4 + 1) n_v0 k_v0 h
      · refine r_iinc (pc := 59) (v := v4 + 1) (lv' := [(4, .int (v4 + 1)), (5, .ref (xa E (rfX (rfX v0 0) v4.toNatClampNeg))), (0, .ref (xa E v0)), (2, .int v2), (3, .int v3)]) 4 dX2_weakestBelow_59 rfl (by rw [ci_1]) (Nat.le_of_ble_eq_true rfl) rfl ?_
        refine r_goto (pc := 62) 7 dX2_weakestBelow_62 (by decide) ?_
        refine r_sub [2, 3, 4, 0] rfl ?_
        exact ih v0 v2 v3 (v4 + 1) n_v0 k_v0 h
def fX2_weakestBelow (σ : Mem) (v0 : Nat) (v1 : Int32) : Option Int32 :=
  fX2_weakestBelow_7 300 σ v0 (-1) v1 0
set_option maxHeartbeats 4000000 in
set_option maxRecDepth 20000 in
theorem gX2_weakestBelow (E : XE) {r : Int32} (σ : Mem) (v0 : Nat) (v1 : Int32) (n_v0 : v0 < LX.1) (k_v0 : LX.2.1 v0 = 2) (h : fX2_weakestBelow σ v0 v1 = some r) : G E LX qX2_weakestBelow σ 0 [(0, .ref (xa E v0)), (1, .int v1)] [] (some r, σ) := by
  unfold fX2_weakestBelow at h
  refine r_iconst (pc := 0) dX2_weakestBelow_0 ci_m1 ?_
  refine r_istore_n (pc := 1) (lv' := [(2, .int ((-1))), (0, .ref (xa E v0)), (1, .int v1)]) dX2_weakestBelow_1 rfl (Nat.le_of_ble_eq_true rfl) rfl ?_
  refine r_iload_n (pc := 2) 2 dX2_weakestBelow_2 rfl rfl ?_
  refine r_istore_n (pc := 3) (lv' := [(3, .int v1), (2, .int ((-1))), (0, .ref (xa E v0)), (1, .int v1)]) dX2_weakestBelow_3 rfl (Nat.le_of_ble_eq_true rfl) rfl ?_
  refine r_iconst (pc := 4) dX2_weakestBelow_4 ci_0 ?_
  refine r_istore (pc := 5) (lv' := [(4, .int 0), (3, .int v1), (2, .int ((-1))), (0, .ref (xa E v0)), (1, .int v1)]) dX2_weakestBelow_5 (Nat.le_of_ble_eq_true rfl) rfl ?_
  refine r_sub [3, 2, 1, 0] rfl ?_
  exact gX2_weakestBelow_7 E 300 σ v0 (-1) v1 0 n_v0 k_v0 h
theorem ceX2_weakestBelow (l : Launch) (d : SD) (σ : Mem) (v0 : Nat) (v1 : Int32) (n_v0 : v0 < LX.1) (k_v0 : LX.2.1 v0 = 2) {r : Int32} (h : fX2_weakestBelow σ v0 v1 = some r) : Me l d LX yX2_weakestBelow qX2_weakestBelow σ [.ref (d.2.2.1 v0), .int v1] (some r, σ) := me_of (avs := fun d => [.ref (d.2.2.1 v0), .int v1]) (by decide) rfl (Nat.le_of_ble_eq_true rfl) (fun E => gX2_weakestBelow E σ v0 v1 n_v0 k_v0 h)
def fX3_has (σ : Mem) (v1 : Int32) : Int32 :=
  fX9_isWithin σ v1 0 ((σ 9 1) - 1)
set_option maxHeartbeats 4000000 in
set_option maxRecDepth 20000 in
theorem gX3_has (E : XE) {r : Int32} (σ : Mem) (v1 : Int32)  (h : fX3_has σ v1 = r) : G E LX qX3_has σ 0 [(0, .ref (xa E 9)), (1, .int v1)] [] (some r, σ) := by
  unfold fX3_has at h
  refine r_iload_n (pc := 0) 1 dX3_has_0 rfl rfl ?_
  refine r_iconst (pc := 1) dX3_has_1 ci_0 ?_
  refine r_aload_n (pc := 2) 0 dX3_has_2 rfl rfl ?_
  refine r_getI (pc := 3) (i := 9) fdRX3_17 nLX_9 kLX_9 (by decide) dX3_has_3 ?_
  refine r_iconst (pc := 6) dX3_has_6 ci_1 ?_
  refine r_isub (pc := 7) dX3_has_7 ?_
  refine r_callS (pc := 8) (As := [.int v1, .int 0, .int ((σ 9 1) - 1)]) (rest := []) lkRX3_28 (ceX9_isWithin _ _ σ v1 0 ((σ 9 1) - 1) rfl) ⟨Nat.le_of_ble_eq_true rfl, Nat.le_of_ble_eq_true rfl⟩ rfl rfl (Nat.le_of_ble_eq_true rfl) dX3_has_8 rfl ?_
  exact r_zret (pc := 11) rfl (nbX9_isWithin) dX3_has_11 h rfl
theorem ceX3_has (l : Launch) (d : SD) (σ : Mem) (v1 : Int32)  {r : Int32} (h : fX3_has σ v1 = r) : Me l d LX yX3_has qX3_has σ [.ref (d.2.2.1 9), .int v1] (some r, σ) := me_of (avs := fun d => [.ref (d.2.2.1 9), .int v1]) (by decide) rfl (Nat.le_of_ble_eq_true rfl) (fun E => gX3_has E σ v1  h)
theorem nbX3_has {σ : Mem} {v1 : Int32} : narrow .boolean (.int (fX3_has σ v1)) = .int (fX3_has σ v1) := by unfold fX3_has; exact nbX9_isWithin
def fX3_make (σ : Mem)  : Option (Int32 × Mem) :=
  if inb (σ 9 1) 20 = true then
  (bm (mset σ (rfX 10 ((σ 9 1).toNatClampNeg)) 1 (σ 8 4)) (fun m1 =>
  bm (mset m1 (rfX 10 ((σ 9 1).toNatClampNeg)) 2 (m1 8 5)) (fun m2 =>
  bm (mset m2 (rfX 10 ((σ 9 1).toNatClampNeg)) 3 (m2 8 6)) (fun m3 =>
  bm (mset m3 (rfX 10 ((σ 9 1).toNatClampNeg)) 4 (m3 8 3)) (fun m4 =>
  bm (mset m4 (rfX 10 ((σ 9 1).toNatClampNeg)) 5 (m4 8 7)) (fun m5 =>
  bm (mset m5 9 1 ((m5 9 1) + 1)) (fun m6 =>
  some ((m6 9 1) - 1, m6))))))))
  else none
set_option maxHeartbeats 4000000 in
set_option maxRecDepth 20000 in
theorem gX3_make (E : XE) {r : Int32 × Mem} (σ : Mem)   (h : fX3_make σ  = some r) : G E LX qX3_make σ 0 [(0, .ref (xa E 9)), (1, .ref (xa E 8))] [] (some r.1, r.2) := by
  unfold fX3_make at h
  refine r_aload_n (pc := 0) 0 dX3_make_0 rfl rfl ?_
  refine r_getR (pc := 1) (i := 9) (j := 10) fdRX3_11 nLX_9 kLX_9 (by decide) rfl dX3_make_1 ?_
  refine r_aload_n (pc := 4) 0 dX3_make_4 rfl rfl ?_
  refine r_getI (pc := 5) (i := 9) fdRX3_17 nLX_9 kLX_9 (by decide) dX3_make_5 ?_
  refine inb_k h (fun b1 h => ?_)
  refine r_aald15 (pc := 8) (i := 10) ((σ 9 1).toNatClampNeg) (rfX 10 ((σ 9 1).toNatClampNeg)) rfl nLX_10 kLX_10 lLX_10 rfl b1 dX3_make_8 ?_
  refine r_astore_n (pc := 9) (lv' := [(2, .ref (xa E (rfX 10 ((σ 9 1).toNatClampNeg)))), (0, .ref (xa E 9)), (1, .ref (xa E 8))]) dX3_make_9 rfl (Nat.le_of_ble_eq_true rfl) rfl ?_
  refine r_aload_n (pc := 10) 0 dX3_make_10 rfl rfl ?_
  refine r_aload_n (pc := 11) 2 dX3_make_11 rfl rfl ?_
  refine r_getI (pc := 12) (i := 8) fdRX3_32 nLX_8 kLX_8 (by decide) dX3_make_12 ?_
  refine r_putI (pc := 15) (i := rfX 10 ((σ 9 1).toNatClampNeg)) fpRX3_22 (elLX_15 nLX_10 kLX_10 (inb_lt b1)).1 (elLX_15 nLX_10 kLX_10 (inb_lt b1)).2 (by decide) rfl rfl dX3_make_15 ?_
  refine g_bm h (fun m1 em1 h => ?_)
  refine r_aload_n (pc := 18) 0 dX3_make_18 rfl rfl ?_
  refine r_aload_n (pc := 19) 2 dX3_make_19 rfl rfl ?_
  refine r_getI (pc := 20) (i := 8) fdRX3_35 nLX_8 kLX_8 (by decide) dX3_make_20 ?_
  refine r_putI (pc := 23) (i := rfX 10 ((σ 9 1).toNatClampNeg)) fpRX3_38 (elLX_15 nLX_10 kLX_10 (inb_lt b1)).1 (elLX_15 nLX_10 kLX_10 (inb_lt b1)).2 (by decide) rfl rfl dX3_make_23 ?_
  refine g_bm h (fun m2 em2 h => ?_)
  refine r_aload_n (pc := 26) 0 dX3_make_26 rfl rfl ?_
  refine r_aload_n (pc := 27) 2 dX3_make_27 rfl rfl ?_
  refine r_getI (pc := 28) (i := 8) fdRX3_39 nLX_8 kLX_8 (by decide) dX3_make_28 ?_
  refine r_putI (pc := 31) (i := rfX 10 ((σ 9 1).toNatClampNeg)) fpRX3_25 (elLX_15 nLX_10 kLX_10 (inb_lt b1)).1 (elLX_15 nLX_10 kLX_10 (inb_lt b1)).2 (by decide) rfl rfl dX3_make_31 ?_
  refine g_bm h (fun m3 em3 h => ?_)
  refine r_aload_n (pc := 34) 0 dX3_make_34 rfl rfl ?_
  refine r_aload_n (pc := 35) 2 dX3_make_35 rfl rfl ?_
  refine r_getI (pc := 36) (i := 8) fdRX3_40 nLX_8 kLX_8 (by decide) dX3_make_36 ?_
  refine r_putI (pc := 39) (i := rfX 10 ((σ 9 1).toNatClampNeg)) fpRX3_43 (elLX_15 nLX_10 kLX_10 (inb_lt b1)).1 (elLX_15 nLX_10 kLX_10 (inb_lt b1)).2 (by decide) rfl rfl dX3_make_39 ?_
  refine g_bm h (fun m4 em4 h => ?_)
  refine r_aload_n (pc := 42) 0 dX3_make_42 rfl rfl ?_
  refine r_aload_n (pc := 43) 2 dX3_make_43 rfl rfl ?_
  refine r_getI (pc := 44) (i := 8) fdRX3_44 nLX_8 kLX_8 (by decide) dX3_make_44 ?_
  refine r_putI (pc := 47) (i := rfX 10 ((σ 9 1).toNatClampNeg)) fpRX3_47 (elLX_15 nLX_10 kLX_10 (inb_lt b1)).1 (elLX_15 nLX_10 kLX_10 (inb_lt b1)).2 (by decide) rfl rfl dX3_make_47 ?_
  refine g_bm h (fun m5 em5 h => ?_)
  refine r_aload_n (pc := 50) 1 dX3_make_50 rfl rfl ?_
  refine r_dup (pc := 51) dX3_make_51 rfl ?_
  refine r_getI (pc := 52) (i := 9) fdRX3_17 nLX_9 kLX_9 (by decide) dX3_make_52 ?_
  refine r_iconst (pc := 55) dX3_make_55 ci_1 ?_
  refine r_iadd (pc := 56) dX3_make_56 ?_
  refine r_putI (pc := 57) (i := 9) fpRX3_17 nLX_9 kLX_9 (by decide) rfl rfl dX3_make_57 ?_
  refine g_bm h (fun m6 em6 h => ?_)
  refine r_aload_n (pc := 60) 1 dX3_make_60 rfl rfl ?_
  refine r_getI (pc := 61) (i := 9) fdRX3_17 nLX_9 kLX_9 (by decide) dX3_make_61 ?_
  refine r_iconst (pc := 64) dX3_make_64 ci_1 ?_
  refine r_isub (pc := 65) dX3_make_65 ?_
  exact r_iretW (pc := 66) rfl dX3_make_66 h
theorem ceX3_make (l : Launch) (d : SD) (σ : Mem)   {r : Int32 × Mem} (h : fX3_make σ  = some r) : Me l d LX yX3_make qX3_make σ [.ref (d.2.2.1 9), .ref (d.2.2.1 8)] (some r.1, r.2) := me_of (avs := fun d => [.ref (d.2.2.1 9), .ref (d.2.2.1 8)]) (by decide) rfl (Nat.le_of_ble_eq_true rfl) (fun E => gX3_make E σ   h)
def fX3_allCoins_4  : Nat → Mem → Int32 → Int32 → Option Int32
  | 0, _, _, _ => none
  | n + 1, σ, v1, v2 =>
    if σ 9 1 ≤ v2 then
      (some (v1))
    else
      (if inb v2 20 = true then
      (bi (v1 + (σ (rfX 10 v2.toNatClampNeg) 6)) (fun x1 =>
      fX3_allCoins_4 n σ x1 (v2 + 1)))
      else none)
set_option maxHeartbeats 4000000 in
set_option maxRecDepth 20000 in
theorem gX3_allCoins_4 (E : XE)  {r : Int32}  (n : Nat) (σ : Mem) : ∀ (v1 : Int32) (v2 : Int32), fX3_allCoins_4 n σ v1 v2 = some r → G E LX qX3_allCoins σ 4 [(0, .ref (xa E 9)), (1, .int v1), (2, .int v2)] [] (some r, σ) := by
  induction n with
  | zero => intro v1 v2 h; cases h
  | succ n ih =>
    intro v1 v2 h
    unfold fX3_allCoins_4 at h
    refine r_iload_n (pc := 4) 2 dX3_allCoins_4 rfl rfl ?_
    refine r_aload_n (pc := 5) 0 dX3_allCoins_5 rfl rfl ?_
    refine r_getI (pc := 6) (i := 9) fdRX3_17 nLX_9 kLX_9 (by decide) dX3_allCoins_6 ?_
    refine r_icmp_ge (pc := 9) 30 dX3_allCoins_9 (by decide) h (fun c1 h => ?_) (fun c1 h => ?_)
    · refine r_iload_n (pc := 30) 1 dX3_allCoins_30 rfl rfl ?_
      exact r_iret (pc := 31) rfl dX3_allCoins_31 (Option.some.inj h) rfl
    · refine r_iload_n (pc := 12) 1 dX3_allCoins_12 rfl rfl ?_
      refine r_aload_n (pc := 13) 0 dX3_allCoins_13 rfl rfl ?_
      refine r_getR (pc := 14) (i := 9) (j := 10) fdRX3_11 nLX_9 kLX_9 (by decide) rfl dX3_allCoins_14 ?_
      refine r_iload_n (pc := 17) 2 dX3_allCoins_17 rfl rfl ?_
      refine inb_k h (fun b1 h => ?_)
      refine r_aald15 (pc := 18) (i := 10) (v2.toNatClampNeg) (rfX 10 v2.toNatClampNeg) rfl nLX_10 kLX_10 lLX_10 rfl b1 dX3_allCoins_18 ?_
      refine r_getI (pc := 19) (i := rfX 10 v2.toNatClampNeg) fdRX3_48 (elLX_15 nLX_10 kLX_10 (inb_lt b1)).1 (elLX_15 nLX_10 kLX_10 (inb_lt b1)).2 (by decide) dX3_allCoins_19 ?_
      refine r_iadd (pc := 22) dX3_allCoins_22 ?_
      refine g_bi h (fun x1 ex1 h => ?_)
      refine r_istore_n (pc := 23) (lv' := [(1, .int x1), (0, .ref (xa E 9)), (2, .int v2)]) dX3_allCoins_23 rfl (Nat.le_of_ble_eq_true rfl) rfl ?_
      refine r_iinc (pc := 24) (v := v2 + 1) (lv' := [(2, .int (v2 + 1)), (1, .int x1), (0, .ref (xa E 9))]) 2 dX3_allCoins_24 rfl (by rw [ci_1]) (Nat.le_of_ble_eq_true rfl) rfl ?_
      refine r_goto (pc := 27) 4 dX3_allCoins_27 (by decide) ?_
      refine r_sub [2, 1, 0] rfl ?_
      exact ih x1 (v2 + 1) h
def fX3_allCoins (σ : Mem)  : Option Int32 :=
  fX3_allCoins_4 300 σ 0 0
set_option maxHeartbeats 4000000 in
set_option maxRecDepth 20000 in
theorem gX3_allCoins (E : XE) {r : Int32} (σ : Mem)   (h : fX3_allCoins σ  = some r) : G E LX qX3_allCoins σ 0 [(0, .ref (xa E 9))] [] (some r, σ) := by
  unfold fX3_allCoins at h
  refine r_iconst (pc := 0) dX3_allCoins_0 ci_0 ?_
  refine r_istore_n (pc := 1) (lv' := [(1, .int 0), (0, .ref (xa E 9))]) dX3_allCoins_1 rfl (Nat.le_of_ble_eq_true rfl) rfl ?_
  refine r_iconst (pc := 2) dX3_allCoins_2 ci_0 ?_
  refine r_istore_n (pc := 3) (lv' := [(2, .int 0), (1, .int 0), (0, .ref (xa E 9))]) dX3_allCoins_3 rfl (Nat.le_of_ble_eq_true rfl) rfl ?_
  refine r_sub [2, 1, 0] rfl ?_
  exact gX3_allCoins_4 E 300 σ 0 0 h
theorem ceX3_allCoins (l : Launch) (d : SD) (σ : Mem)   {r : Int32} (h : fX3_allCoins σ  = some r) : Me l d LX yX3_allCoins qX3_allCoins σ [.ref (d.2.2.1 9)] (some r, σ) := me_of (avs := fun d => [.ref (d.2.2.1 9)]) (by decide) rfl (Nat.le_of_ble_eq_true rfl) (fun E => gX3_allCoins E σ   h)
def fX3_coinsFor_5  : Nat → Mem → Int32 → Int32 → Int32 → Int32 → Option Int32
  | 0, _, _, _, _, _ => none
  | n + 1, σ, v1, v2, v3, v4 =>
    if σ 9 1 ≤ v4 then
      (some (v3))
    else
      (if inb v4 20 = true then
      (if fX5_canPay σ (rfX 10 v4.toNatClampNeg) v1 v2 = 0 then
        (bi (v3 + 0) (fun x1 =>
        fX3_coinsFor_5 n σ v1 v2 x1 (v4 + 1)))
      else
        (if inb v4 20 = true then
        (bi (v3 + (σ (rfX 10 v4.toNatClampNeg) 6)) (fun x2 =>
        fX3_coinsFor_5 n σ v1 v2 x2 (v4 + 1)))
        else none))
      else none)
set_option maxHeartbeats 4000000 in
set_option maxRecDepth 20000 in
theorem gX3_coinsFor_5 (E : XE)  {r : Int32}  (n : Nat) (σ : Mem) : ∀ (v1 : Int32) (v2 : Int32) (v3 : Int32) (v4 : Int32), fX3_coinsFor_5 n σ v1 v2 v3 v4 = some r → G E LX qX3_coinsFor σ 5 [(0, .ref (xa E 9)), (1, .int v1), (2, .int v2), (3, .int v3), (4, .int v4)] [] (some r, σ) := by
  induction n with
  | zero => intro v1 v2 v3 v4 h; cases h
  | succ n ih =>
    intro v1 v2 v3 v4 h
    unfold fX3_coinsFor_5 at h
    refine r_iload (pc := 5) 4 dX3_coinsFor_5 rfl ?_
    refine r_aload_n (pc := 7) 0 dX3_coinsFor_7 rfl rfl ?_
    refine r_getI (pc := 8) (i := 9) fdRX3_17 nLX_9 kLX_9 (by decide) dX3_coinsFor_8 ?_
    refine r_icmp_ge (pc := 11) 52 dX3_coinsFor_11 (by decide) h (fun c1 h => ?_) (fun c1 h => ?_)
    · refine r_iload_n (pc := 52) 3 dX3_coinsFor_52 rfl rfl ?_
      exact r_iret (pc := 53) rfl dX3_coinsFor_53 (Option.some.inj h) rfl
    · refine r_iload_n (pc := 14) 3 dX3_coinsFor_14 rfl rfl ?_
      refine r_aload_n (pc := 15) 0 dX3_coinsFor_15 rfl rfl ?_
      refine r_getR (pc := 16) (i := 9) (j := 10) fdRX3_11 nLX_9 kLX_9 (by decide) rfl dX3_coinsFor_16 ?_
      refine r_iload (pc := 19) 4 dX3_coinsFor_19 rfl ?_
      refine inb_k h (fun b1 h => ?_)
      refine r_aald15 (pc := 21) (i := 10) (v4.toNatClampNeg) (rfX 10 v4.toNatClampNeg) rfl nLX_10 kLX_10 lLX_10 rfl b1 dX3_coinsFor_21 ?_
      refine r_iload_n (pc := 22) 1 dX3_coinsFor_22 rfl rfl ?_
      refine r_iload_n (pc := 23) 2 dX3_coinsFor_23 rfl rfl ?_
      refine r_callV (pc := 24) (i := rfX 10 v4.toNatClampNeg) (As := [.int v1, .int v2]) (rest := [.int v3]) lkRX3_51 (ceX5_canPay _ _ σ (rfX 10 v4.toNatClampNeg) v1 v2 (elLX_15 nLX_10 kLX_10 (inb_lt b1)).1 (elLX_15 nLX_10 kLX_10 (inb_lt b1)).2 rfl) (elLX_15 nLX_10 kLX_10 (inb_lt b1)).1 (elLX_15 nLX_10 kLX_10 (inb_lt b1)).2 (by decide) rfl ⟨Nat.le_of_ble_eq_true rfl, Nat.le_of_ble_eq_true rfl⟩ rfl rfl (Nat.le_of_ble_eq_true rfl) dX3_coinsFor_24 rfl ?_
      refine r_if_eq (pc := 27) 43 dX3_coinsFor_27 (by decide) h (fun c2 h => ?_) (fun c2 h => ?_)
      · refine r_iconst (pc := 43) dX3_coinsFor_43 ci_0 ?_
        refine r_iadd (pc := 44) dX3_coinsFor_44 ?_
        refine g_bi h (fun x1 ex1 h => ?_)
        refine r_istore_n (pc := 45) (lv' := [(3, .int x1), (0, .ref (xa E 9)), (1, .int v1), (2, .int v2), (4, .int v4)]) dX3_coinsFor_45 rfl (Nat.le_of_ble_eq_true rfl) rfl ?_
        refine r_iinc (pc := 46) (v := v4 + 1) (lv' := [(4, .int (v4 + 1)), (3, .int x1), (0, .ref (xa E 9)), (1, .int v1), (2, .int v2)]) 4 dX3_coinsFor_46 rfl (by rw [ci_1]) (Nat.le_of_ble_eq_true rfl) rfl ?_
        refine r_goto (pc := 49) 5 dX3_coinsFor_49 (by decide) ?_
        refine r_sub [2, 3, 4, 1, 0] rfl ?_
        exact ih v1 v2 x1 (v4 + 1) h
      · refine r_aload_n (pc := 30) 0 dX3_coinsFor_30 rfl rfl ?_
        refine r_getR (pc := 31) (i := 9) (j := 10) fdRX3_11 nLX_9 kLX_9 (by decide) rfl dX3_coinsFor_31 ?_
        refine r_iload (pc := 34) 4 dX3_coinsFor_34 rfl ?_
        refine inb_k h (fun b2 h => ?_)
        refine r_aald15 (pc := 36) (i := 10) (v4.toNatClampNeg) (rfX 10 v4.toNatClampNeg) rfl nLX_10 kLX_10 lLX_10 rfl b2 dX3_coinsFor_36 ?_
        refine r_getI (pc := 37) (i := rfX 10 v4.toNatClampNeg) fdRX3_48 (elLX_15 nLX_10 kLX_10 (inb_lt b2)).1 (elLX_15 nLX_10 kLX_10 (inb_lt b2)).2 (by decide) dX3_coinsFor_37 ?_
        refine r_goto (pc := 40) 44 dX3_coinsFor_40 (by decide) ?_
        refine r_iadd (pc := 44) dX3_coinsFor_44 ?_
        refine g_bi h (fun x2 ex2 h => ?_)
        refine r_istore_n (pc := 45) (lv' := [(3, .int x2), (0, .ref (xa E 9)), (1, .int v1), (2, .int v2), (4, .int v4)]) dX3_coinsFor_45 rfl (Nat.le_of_ble_eq_true rfl) rfl ?_
        refine r_iinc (pc := 46) (v := v4 + 1) (lv' := [(4, .int (v4 + 1)), (3, .int x2), (0, .ref (xa E 9)), (1, .int v1), (2, .int v2)]) 4 dX3_coinsFor_46 rfl (by rw [ci_1]) (Nat.le_of_ble_eq_true rfl) rfl ?_
        refine r_goto (pc := 49) 5 dX3_coinsFor_49 (by decide) ?_
        refine r_sub [2, 3, 4, 1, 0] rfl ?_
        exact ih v1 v2 x2 (v4 + 1) h
def fX3_coinsFor (σ : Mem) (v1 : Int32) (v2 : Int32) : Option Int32 :=
  fX3_coinsFor_5 300 σ v1 v2 0 0
set_option maxHeartbeats 4000000 in
set_option maxRecDepth 20000 in
theorem gX3_coinsFor (E : XE) {r : Int32} (σ : Mem) (v1 : Int32) (v2 : Int32)  (h : fX3_coinsFor σ v1 v2 = some r) : G E LX qX3_coinsFor σ 0 [(0, .ref (xa E 9)), (1, .int v1), (2, .int v2)] [] (some r, σ) := by
  unfold fX3_coinsFor at h
  refine r_iconst (pc := 0) dX3_coinsFor_0 ci_0 ?_
  refine r_istore_n (pc := 1) (lv' := [(3, .int 0), (0, .ref (xa E 9)), (1, .int v1), (2, .int v2)]) dX3_coinsFor_1 rfl (Nat.le_of_ble_eq_true rfl) rfl ?_
  refine r_iconst (pc := 2) dX3_coinsFor_2 ci_0 ?_
  refine r_istore (pc := 3) (lv' := [(4, .int 0), (3, .int 0), (0, .ref (xa E 9)), (1, .int v1), (2, .int v2)]) dX3_coinsFor_3 (Nat.le_of_ble_eq_true rfl) rfl ?_
  refine r_sub [2, 3, 4, 1, 0] rfl ?_
  exact gX3_coinsFor_5 E 300 σ v1 v2 0 0 h
theorem ceX3_coinsFor (l : Launch) (d : SD) (σ : Mem) (v1 : Int32) (v2 : Int32)  {r : Int32} (h : fX3_coinsFor σ v1 v2 = some r) : Me l d LX yX3_coinsFor qX3_coinsFor σ [.ref (d.2.2.1 9), .int v1, .int v2] (some r, σ) := me_of (avs := fun d => [.ref (d.2.2.1 9), .int v1, .int v2]) (by decide) rfl (Nat.le_of_ble_eq_true rfl) (fun E => gX3_coinsFor E σ v1 v2  h)
def fX3_nextToPay_5  : Nat → Mem → Int32 → Int32 → Int32 → Int32 → Option Int32
  | 0, _, _, _, _, _ => none
  | n + 1, σ, v1, v2, v3, v4 =>
    if σ 9 1 ≤ v4 then
      (some (v3))
    else
      (if inb v4 20 = true then
      (if fX5_canPay σ (rfX 10 v4.toNatClampNeg) v1 v2 = 0 then
        (fX3_nextToPay_5 n σ v1 v2 v3 (v4 + 1))
      else
        (if v3 = (-1) then
          (fX3_nextToPay_5 n σ v1 v2 v4 (v4 + 1))
        else
          (if inb v4 20 = true then
          (if inb v3 20 = true then
          (if fX5_paysAheadOf σ (rfX 10 v4.toNatClampNeg) (rfX 10 v3.toNatClampNeg) = 0 then
            (fX3_nextToPay_5 n σ v1 v2 v3 (v4 + 1))
          else
            (fX3_nextToPay_5 n σ v1 v2 v4 (v4 + 1)))
          else none)
          else none)))
      else none)
set_option maxHeartbeats 4000000 in
set_option maxRecDepth 20000 in
theorem gX3_nextToPay_5 (E : XE)  {r : Int32}  (n : Nat) (σ : Mem) : ∀ (v1 : Int32) (v2 : Int32) (v3 : Int32) (v4 : Int32), fX3_nextToPay_5 n σ v1 v2 v3 v4 = some r → G E LX qX3_nextToPay σ 5 [(0, .ref (xa E 9)), (1, .int v1), (2, .int v2), (3, .int v3), (4, .int v4)] [] (some r, σ) := by
  induction n with
  | zero => intro v1 v2 v3 v4 h; cases h
  | succ n ih =>
    intro v1 v2 v3 v4 h
    unfold fX3_nextToPay_5 at h
    refine r_iload (pc := 5) 4 dX3_nextToPay_5 rfl ?_
    refine r_aload_n (pc := 7) 0 dX3_nextToPay_7 rfl rfl ?_
    refine r_getI (pc := 8) (i := 9) fdRX3_17 nLX_9 kLX_9 (by decide) dX3_nextToPay_8 ?_
    refine r_icmp_ge (pc := 11) 62 dX3_nextToPay_11 (by decide) h (fun c1 h => ?_) (fun c1 h => ?_)
    · refine r_iload_n (pc := 62) 3 dX3_nextToPay_62 rfl rfl ?_
      exact r_iret (pc := 63) rfl dX3_nextToPay_63 (Option.some.inj h) rfl
    · refine r_aload_n (pc := 14) 0 dX3_nextToPay_14 rfl rfl ?_
      refine r_getR (pc := 15) (i := 9) (j := 10) fdRX3_11 nLX_9 kLX_9 (by decide) rfl dX3_nextToPay_15 ?_
      refine r_iload (pc := 18) 4 dX3_nextToPay_18 rfl ?_
      refine inb_k h (fun b1 h => ?_)
      refine r_aald15 (pc := 20) (i := 10) (v4.toNatClampNeg) (rfX 10 v4.toNatClampNeg) rfl nLX_10 kLX_10 lLX_10 rfl b1 dX3_nextToPay_20 ?_
      refine r_iload_n (pc := 21) 1 dX3_nextToPay_21 rfl rfl ?_
      refine r_iload_n (pc := 22) 2 dX3_nextToPay_22 rfl rfl ?_
      refine r_callV (pc := 23) (i := rfX 10 v4.toNatClampNeg) (As := [.int v1, .int v2]) (rest := []) lkRX3_51 (ceX5_canPay _ _ σ (rfX 10 v4.toNatClampNeg) v1 v2 (elLX_15 nLX_10 kLX_10 (inb_lt b1)).1 (elLX_15 nLX_10 kLX_10 (inb_lt b1)).2 rfl) (elLX_15 nLX_10 kLX_10 (inb_lt b1)).1 (elLX_15 nLX_10 kLX_10 (inb_lt b1)).2 (by decide) rfl ⟨Nat.le_of_ble_eq_true rfl, Nat.le_of_ble_eq_true rfl⟩ rfl rfl (Nat.le_of_ble_eq_true rfl) dX3_nextToPay_23 rfl ?_
      refine r_if_eq (pc := 26) 56 dX3_nextToPay_26 (by decide) h (fun c2 h => ?_) (fun c2 h => ?_)
      · refine r_iinc (pc := 56) (v := v4 + 1) (lv' := [(4, .int (v4 + 1)), (0, .ref (xa E 9)), (1, .int v1), (2, .int v2), (3, .int v3)]) 4 dX3_nextToPay_56 rfl (by rw [ci_1]) (Nat.le_of_ble_eq_true rfl) rfl ?_
        refine r_goto (pc := 59) 5 dX3_nextToPay_59 (by decide) ?_
        refine r_sub [1, 2, 3, 4, 0] rfl ?_
        exact ih v1 v2 v3 (v4 + 1) h
      · refine r_iload_n (pc := 29) 3 dX3_nextToPay_29 rfl rfl ?_
        refine r_iconst (pc := 30) dX3_nextToPay_30 ci_m1 ?_
        refine r_icmp_eq (pc := 31) 53 dX3_nextToPay_31 (by decide) h (fun c3 h => ?_) (fun c3 h => ?_)
        · refine r_iload (pc := 53) 4 dX3_nextToPay_53 rfl ?_
          refine r_istore_n (pc := 55) (lv' := [(3, .int v4), (0, .ref (xa E 9)), (1, .int v1), (2, .int v2), (4, .int v4)]) dX3_nextToPay_55 rfl (Nat.le_of_ble_eq_true rfl) rfl ?_
          refine r_iinc (pc := 56) (v := v4 + 1) (lv' := [(4, .int (v4 + 1)), (3, .int v4), (0, .ref (xa E 9)), (1, .int v1), (2, .int v2)]) 4 dX3_nextToPay_56 rfl (by rw [ci_1]) (Nat.le_of_ble_eq_true rfl) rfl ?_
          refine r_goto (pc := 59) 5 dX3_nextToPay_59 (by decide) ?_
          refine r_sub [2, 3, 4, 1, 0] rfl ?_
          exact ih v1 v2 v4 (v4 + 1) h
        · refine r_aload_n (pc := 34) 0 dX3_nextToPay_34 rfl rfl ?_
          refine r_getR (pc := 35) (i := 9) (j := 10) fdRX3_11 nLX_9 kLX_9 (by decide) rfl dX3_nextToPay_35 ?_
          refine r_iload (pc := 38) 4 dX3_nextToPay_38 rfl ?_
          refine inb_k h (fun b2 h => ?_)
          refine r_aald15 (pc := 40) (i := 10) (v4.toNatClampNeg) (rfX 10 v4.toNatClampNeg) rfl nLX_10 kLX_10 lLX_10 rfl b2 dX3_nextToPay_40 ?_
          refine r_aload_n (pc := 41) 0 dX3_nextToPay_41 rfl rfl ?_
          refine r_getR (pc := 42) (i := 9) (j := 10) fdRX3_11 nLX_9 kLX_9 (by decide) rfl dX3_nextToPay_42 ?_
          refine r_iload_n (pc := 45) 3 dX3_nextToPay_45 rfl rfl ?_
          refine inb_k h (fun b3 h => ?_)
          refine r_aald15 (pc := 46) (i := 10) (v3.toNatClampNeg) (rfX 10 v3.toNatClampNeg) rfl nLX_10 kLX_10 lLX_10 rfl b3 dX3_nextToPay_46 ?_
          refine r_callV (pc := 47) (i := rfX 10 v4.toNatClampNeg) (As := [.ref (xa E (rfX 10 v3.toNatClampNeg))]) (rest := []) lkRX3_55 (ceX5_paysAheadOf _ _ σ (rfX 10 v4.toNatClampNeg) (rfX 10 v3.toNatClampNeg) (elLX_15 nLX_10 kLX_10 (inb_lt b2)).1 (elLX_15 nLX_10 kLX_10 (inb_lt b2)).2 (elLX_15 nLX_10 kLX_10 (inb_lt b3)).1 (elLX_15 nLX_10 kLX_10 (inb_lt b3)).2 rfl) (elLX_15 nLX_10 kLX_10 (inb_lt b2)).1 (elLX_15 nLX_10 kLX_10 (inb_lt b2)).2 (by decide) rfl ⟨Nat.le_of_ble_eq_true rfl, Nat.le_of_ble_eq_true rfl⟩ rfl rfl (Nat.le_of_ble_eq_true rfl) dX3_nextToPay_47 rfl ?_
          refine r_if_eq (pc := 50) 56 dX3_nextToPay_50 (by decide) h (fun c4 h => ?_) (fun c4 h => ?_)
          · refine r_iinc (pc := 56) (v := v4 + 1) (lv' := [(4, .int (v4 + 1)), (0, .ref (xa E 9)), (1, .int v1), (2, .int v2), (3, .int v3)]) 4 dX3_nextToPay_56 rfl (by rw [ci_1]) (Nat.le_of_ble_eq_true rfl) rfl ?_
            refine r_goto (pc := 59) 5 dX3_nextToPay_59 (by decide) ?_
            refine r_sub [1, 2, 3, 4, 0] rfl ?_
            exact ih v1 v2 v3 (v4 + 1) h
          · refine r_iload (pc := 53) 4 dX3_nextToPay_53 rfl ?_
            refine r_istore_n (pc := 55) (lv' := [(3, .int v4), (0, .ref (xa E 9)), (1, .int v1), (2, .int v2), (4, .int v4)]) dX3_nextToPay_55 rfl (Nat.le_of_ble_eq_true rfl) rfl ?_
            refine r_iinc (pc := 56) (v := v4 + 1) (lv' := [(4, .int (v4 + 1)), (3, .int v4), (0, .ref (xa E 9)), (1, .int v1), (2, .int v2)]) 4 dX3_nextToPay_56 rfl (by rw [ci_1]) (Nat.le_of_ble_eq_true rfl) rfl ?_
            refine r_goto (pc := 59) 5 dX3_nextToPay_59 (by decide) ?_
            refine r_sub [2, 3, 4, 1, 0] rfl ?_
            exact ih v1 v2 v4 (v4 + 1) h
def fX3_nextToPay (σ : Mem) (v1 : Int32) (v2 : Int32) : Option Int32 :=
  fX3_nextToPay_5 300 σ v1 v2 (-1) 0
set_option maxHeartbeats 4000000 in
set_option maxRecDepth 20000 in
theorem gX3_nextToPay (E : XE) {r : Int32} (σ : Mem) (v1 : Int32) (v2 : Int32)  (h : fX3_nextToPay σ v1 v2 = some r) : G E LX qX3_nextToPay σ 0 [(0, .ref (xa E 9)), (1, .int v1), (2, .int v2)] [] (some r, σ) := by
  unfold fX3_nextToPay at h
  refine r_iconst (pc := 0) dX3_nextToPay_0 ci_m1 ?_
  refine r_istore_n (pc := 1) (lv' := [(3, .int ((-1))), (0, .ref (xa E 9)), (1, .int v1), (2, .int v2)]) dX3_nextToPay_1 rfl (Nat.le_of_ble_eq_true rfl) rfl ?_
  refine r_iconst (pc := 2) dX3_nextToPay_2 ci_0 ?_
  refine r_istore (pc := 3) (lv' := [(4, .int 0), (3, .int ((-1))), (0, .ref (xa E 9)), (1, .int v1), (2, .int v2)]) dX3_nextToPay_3 (Nat.le_of_ble_eq_true rfl) rfl ?_
  refine r_sub [2, 3, 4, 1, 0] rfl ?_
  exact gX3_nextToPay_5 E 300 σ v1 v2 (-1) 0 h
theorem ceX3_nextToPay (l : Launch) (d : SD) (σ : Mem) (v1 : Int32) (v2 : Int32)  {r : Int32} (h : fX3_nextToPay σ v1 v2 = some r) : Me l d LX yX3_nextToPay qX3_nextToPay σ [.ref (d.2.2.1 9), .int v1, .int v2] (some r, σ) := me_of (avs := fun d => [.ref (d.2.2.1 9), .int v1, .int v2]) (by decide) rfl (Nat.le_of_ble_eq_true rfl) (fun E => gX3_nextToPay E σ v1 v2  h)
