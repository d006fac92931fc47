theorem v_69 : Cond.instantiable RX9 10 ∈ TBL := mTi 69 (by decide +kernel) rfl
theorem v_757 : Cond.instantiable RX10 41 ∈ TBL := mTi 757 (by decide +kernel) rfl
theorem kb0 {s : State} {b : Nat} (hts : ∀ w ∈ lw_tbl, w.before #[Value.ref b] s = true) : ∃ (D : va_G) (cy : Nat → ClassId), KB D cy s := by
  have hTB : ∀ x ∈ TBL, x.before #[Value.ref b] s = true := fun x h => hts x (List.mem_filter.mp h).1
  have hNW : ∀ x ∈ NWL, va_Nw x s := fun x h => va_Nw.of (nw_tab (List.mem_filter.mp h).2) (hts x (List.mem_filter.mp h).1)
  obtain ⟨c0, i0, k0⟩ := u_known (C := RX0) (T := TX0) (N := 6) (n := 6) hTB inT_0 (hTB _ v_84)
  obtain ⟨c1, i1, k1⟩ := u_known (C := RX1) (T := TX1) (N := 3) (n := 3) hTB inT_1 (hTB _ v_250)
  obtain ⟨c2, i2, k2⟩ := u_known (C := RX2) (T := TX2) (N := 2) (n := 2) hTB inT_2 (hTB _ v_77)
  obtain ⟨c3, i3, k3⟩ := u_known (C := RX3) (T := TX3) (N := 2) (n := 2) hTB inT_3 (hTB _ v_185)
  obtain ⟨c4, i4, k4⟩ := u_known (C := RX4) (T := TX4) (N := 8) (n := 8) hTB inT_4 (hTB _ v_147)
  obtain ⟨c5, i5, k5⟩ := u_known (C := RX5) (T := TX5) (N := 9) (n := 9) hTB inT_5 (hTB _ v_192)
  obtain ⟨c6, i6, k6⟩ := u_known (C := RX6) (T := TX6) (N := 1) (n := 1) hTB inT_6 (hTB _ v_267)
  obtain ⟨c7, i7, k7⟩ := u_known (C := RX7) (T := TX7) (N := 4) (n := 4) hTB inT_7 (hTB _ v_276)
  obtain ⟨c8, i8, k8⟩ := u_known (C := RX8) (T := TX8) (N := 2) (n := 2) hTB inT_8 (hTB _ v_130)
  obtain ⟨c9, i9, k9⟩ := u_known (C := RX9) (T := TX9) (N := 10) (n := 10) hTB inT_9 (hTB _ v_69)
  obtain ⟨c10, i10, k10⟩ := u_known (C := RX10) (T := TX10) (N := 41) (n := 41) hTB inT_10 (hTB _ v_757)
  have a0 : va_AO "BridgeHouse$Arch" s := va_AO.of (hts (.arrayOver (.object "BridgeHouse$Arch")) (List.mem_of_getElem? (i := 83) (by decide +kernel)))
  have a1 : va_AO "BridgeHouse$Purse" s := va_AO.of (hts (.arrayOver (.object "BridgeHouse$Purse")) (List.mem_of_getElem? (i := 191) (by decide +kernel)))
  have a2 : va_AO "BridgeHouse$Sheet" s := va_AO.of (hts (.arrayOver (.object "BridgeHouse$Sheet")) (List.mem_of_getElem? (i := 128) (by decide +kernel)))
  obtain ⟨y0, ky0, q0, f0, g0, h0⟩ := Cond.arrayClass_spec (hTB _ v_145)
  obtain ⟨y1, ky1, q1, f1, g1, h1⟩ := Cond.arrayClass_spec (hTB _ v_239)
  obtain ⟨y2, ky2, q2, f2, g2, h2⟩ := Cond.arrayClass_spec (hTB _ v_886)
  obtain ⟨q3, y3, ky3, e3, -, g3, h3, f3⟩ := Cond.arrayOver_spec a0
  obtain ⟨q4, y4, ky4, e4, -, g4, h4, f4⟩ := Cond.arrayOver_spec a1
  obtain ⟨q5, y5, ky5, e5, -, g5, h5, f5⟩ := Cond.arrayOver_spec a2
  refine ⟨(fun k => if k = 0 then c0 else if k = 1 then c1 else if k = 2 then c2 else if k = 3 then c3 else if k = 4 then c4 else if k = 5 then c5 else if k = 6 then c6 else if k = 7 then c7 else if k = 8 then c8 else if k = 9 then c9 else c10, fun k => if k = 0 then i0 else if k = 1 then i1 else if k = 2 then i2 else if k = 3 then i3 else if k = 4 then i4 else if k = 5 then i5 else if k = 6 then i6 else if k = 7 then i7 else if k = 8 then i8 else if k = 9 then i9 else i10), fun k => if k = 11 then y0 else if k = 12 then y1 else if k = 13 then y2 else if k = 14 then y3 else if k = 15 then y4 else y5, ⟨fun k q hq => ?_, fun k q hq => ?_⟩, hNW, a0, a1, a2⟩
  · match k, hq with
    | 0, hq => cases hq; exact k0
    | 1, hq => cases hq; exact k1
    | 2, hq => cases hq; exact k2
    | 3, hq => cases hq; exact k3
    | 4, hq => cases hq; exact k4
    | 5, hq => cases hq; exact k5
    | 6, hq => cases hq; exact k6
    | 7, hq => cases hq; exact k7
    | 8, hq => cases hq; exact k8
    | 9, hq => cases hq; exact k9
    | 10, hq => cases hq; exact k10
    | k + 11, hq => simp at hq
  · match k, hq with
    | 0, hq => cases hq; exact ⟨fun n z => ⟨(fun k h => by cases h), ky0, g0, q0, h0⟩, f0⟩
    | 1, hq => cases hq; exact ⟨fun n z => ⟨(fun k h => by cases h), ky1, g1, q1, h1⟩, f1⟩
    | 2, hq => cases hq; exact ⟨fun n z => ⟨(fun k h => by cases h), ky2, g2, q2, h2⟩, f2⟩
    | 3, hq => cases hq; exact ⟨fun n z => ⟨(fun k h => by cases h), ky3, g3, q3, h3⟩, ky3, q3, g3, h3, e3, f3⟩
    | 4, hq => cases hq; exact ⟨fun n z => ⟨(fun k h => by cases h), ky4, g4, q4, h4⟩, ky4, q4, g4, h4, e4, f4⟩
    | 5, hq => cases hq; exact ⟨fun n z => ⟨(fun k h => by cases h), ky5, g5, q5, h5⟩, ky5, q5, g5, h5, e5, f5⟩
    | k + 6, hq => simp [tys] at hq
set_option maxRecDepth 100000 in
theorem tm1 : ∀ i, i < nJS → Cond.exactly (.string ownJS (idJS.getD i 0)) "java/lang/String" ∈ flatC (Jvm.Cond.and given_1 narrow_1) := by decide +kernel
set_option maxRecDepth 100000 in
theorem tm2 : ∀ i, i < nJS → Cond.eq (.field (.string ownJS (idJS.getD i 0)) "java/lang/String" "coder" "B") (.int 0) ∈ flatC (Jvm.Cond.and given_1 narrow_1) := by decide +kernel
set_option maxRecDepth 100000 in
theorem tm3 : ∀ i, i < nJS → Cond.arrayOf (.field (.string ownJS (idJS.getD i 0)) "java/lang/String" "value" "[B") .byte ∈ flatC (Jvm.Cond.and given_1 narrow_1) := by decide +kernel
set_option maxRecDepth 100000 in
theorem tm4 : ∀ i, i < nJS → Cond.eq (.length (.field (.string ownJS (idJS.getD i 0)) "java/lang/String" "value" "[B")) (.int (Int32.ofNat (lenJS.getD i 0))) ∈ flatC (Jvm.Cond.and given_1 narrow_1) := by decide +kernel
set_option maxRecDepth 100000 in
theorem tm5 : ∀ i, i < nJS → ∀ j, j < lenJS.getD i 0 → Cond.eq (.elem (.field (.string ownJS (idJS.getD i 0)) "java/lang/String" "value" "[B") (.int (Int32.ofNat j))) (.int ((bytJS.getD i []).getD j 0)) ∈ flatC (Jvm.Cond.and given_1 narrow_1) := by decide +kernel
set_option maxRecDepth 100000 in
theorem tm6 : ∀ i, i < nJS → ∀ j, j < nJS → i ≠ j → Cond.not (Cond.eq (.string ownJS (idJS.getD i 0)) (.string ownJS (idJS.getD j 0))) ∈ flatC (Jvm.Cond.and given_1 narrow_1) ∨ Cond.not (Cond.eq (.string ownJS (idJS.getD j 0)) (.string ownJS (idJS.getD i 0))) ∈ flatC (Jvm.Cond.and given_1 narrow_1) := by decide +kernel
set_option maxRecDepth 100000 in
theorem tm7 : ∀ i, i < nJS → Cond.stringRef ownJS (idJS.getD i 0) (txJS.getD i "") ∈ lw_tbl := by decide +kernel
set_option maxRecDepth 100000 in
theorem tm8 : Cond.eq (.static "java/lang/String" "COMPACT_STRINGS" "Z") (.int 1) ∈ flatC (Jvm.Cond.and given_1 narrow_1) := by decide +kernel
set_option maxRecDepth 100000 in
theorem tm9 : Cond.isRef (.static "jdk/internal/util/Preconditions" "SIOOBE_FORMATTER" "Ljava/util/function/BiFunction;") ∈ flatC (Jvm.Cond.and given_1 narrow_1) := by decide +kernel
theorem texts0 {s : State} {b : Nat} (hts : ∀ w ∈ lw_tbl, w.before #[Value.ref b] s = true) (hgv : (Jvm.Cond.and given_1 narrow_1).before #[Value.ref b] s = true) : ∃ adK adV : Nat → Nat, vk_S nJS lenJS bytJS adK adV (AF s.heap.size) s s.heap ∧ ∀ i, i < nJS → vk_R ownJS (idJS.getD i 0) (txJS.getD i "") (adK i) s := by
  have hs := flat_of_before _ hgv
  obtain ⟨adK, adV, h1, h2⟩ := vk_Sof (args := #[Value.ref b]) (s := s) (N := nJS) (tm := fun i => .string ownJS (idJS.getD i 0)) (len := lenJS) (byt := bytJS) (A := AF s.heap.size) lenJS_small (fun i hi => hs _ (tm1 i hi)) (fun i hi => hs _ (tm2 i hi)) (fun i hi => hs _ (tm3 i hi)) (fun i hi => hs _ (tm4 i hi)) (fun i hi j hj => hs _ (tm5 i hi j hj)) (fun i j hi hj hne => (tm6 i hi j hj hne).imp (hs _) (hs _)) (fun a ha => Nat.not_le.mpr ha)
  exact ⟨adK, adV, h1, fun i hi => vk_R.of (hts _ (tm7 i hi)) (h2 i hi)⟩
/-- what lies outside, for a memory whose cells are new -/
theorem ext0 {s : State} {b : Nat} {d : SD} {Λ : Lay} (hts : ∀ w ∈ lw_tbl, w.before #[Value.ref b] s = true) (hgv : (Jvm.Cond.and given_1 narrow_1).before #[Value.ref b] s = true) (hS : vk_S nJS lenJS bytJS d.2.2.2.1 d.2.2.2.2 (AF s.heap.size) s s.heap) (hR : ∀ i, i < nJS → vk_R ownJS (idJS.getD i 0) (txJS.getD i "") (d.2.2.2.1 i) s) (hfar : ∀ i, i < Λ.1 → s.heap.size ≤ d.2.2.1 i) : Ext d Λ s s.heap := by
  have hs := flat_of_before _ hgv
  have hA : ∀ a : Nat, a < s.heap.size → ¬ AA d Λ a := fun a ha ⟨i, hi, e⟩ => by
    have := hfar i hi
    omega
  refine ⟨hS.narrow (fun q ⟨i, hi, e⟩ => by rw [e]; exact hfar i hi), hR, va_Zof (hts (.laysStatic "java/lang/String" "COMPACT_STRINGS" "Z") (List.mem_of_getElem? (i := 509) (by decide +kernel))) (hts (.initialized "java/lang/String") (List.mem_of_getElem? (i := 64) (by decide +kernel))) (va_eqi (hs _ tm8)) hA, va_Zqof (hts (.laysStatic "jdk/internal/util/Preconditions" "SIOOBE_FORMATTER" "Ljava/util/function/BiFunction;") (List.mem_of_getElem? (i := 525) (by decide +kernel))) (hts (.initialized "jdk/internal/util/Preconditions") (List.mem_of_getElem? (i := 66) (by decide +kernel))) (hs _ tm9) hA⟩
theorem v_68 : Cond.classLink RL 7 RX9 ∈ TBL := mTi 68 (by decide +kernel) rfl
theorem v_756 : Cond.classLink RL 10 RX10 ∈ TBL := mTi 756 (by decide +kernel) rfl
theorem v_70 : Cond.methodLink RL 9 yX9_init ∈ TBL := mTi 70 (by decide +kernel) rfl
theorem v_72 : Cond.code yX9_init cX9_init 2 none ∈ TBL := mTi 72 (by decide +kernel) rfl
theorem v_71 : Cond.instanceMethod yX9_init ∈ TBL := mTi 71 (by decide +kernel) rfl
theorem lI_L_9 : LkI RL 9 yX9_init qI9 0 := ⟨Or.inl v_70, v_51, v_72, by decide +kernel, v_71, rfl⟩
theorem v_758 : Cond.methodLink RL 12 yX10_init ∈ TBL := mTi 758 (by decide +kernel) rfl
theorem v_760 : Cond.code yX10_init cX10_init 1 none ∈ TBL := mTi 760 (by decide +kernel) rfl
theorem v_759 : Cond.instanceMethod yX10_init ∈ TBL := mTi 759 (by decide +kernel) rfl
theorem lI_L_12 : LkI RL 12 yX10_init qI10 0 := ⟨Or.inl v_758, v_61, v_760, by decide +kernel, v_759, rfl⟩
abbrev qL : QB := (RL, cL_law, 4, room_1)
set_option maxRecDepth 100000 in
set_option maxHeartbeats 4000000 in
theorem start_walk {E : XB} {b L : Nat} {xs : Nat → Int32} {u v : Nat → Nat} {ad : Nat → Nat} {ce : Nat → va_E} (hL : L ≤ 3072) (hargs : E.2.1.2.1 = #[Value.ref b]) (hX : va_X b L xs E.1.2.2.2.2 E.1.2.2.2.2.heap) (hbl : b < E.1.2.2.2.2.heap.size) (hr : E.2.1.2.2.2.1.sig.returnType = ret) (hlocks : E.2.1.2.2.2.1.locks = false) (hts : ∀ w ∈ lw_tbl, w.before #[Value.ref b] E.1.2.2.2.2 = true) (hgv : (Jvm.Cond.and given_1 narrow_1).before #[Value.ref b] E.1.2.2.2.2 = true) (hvS : vk_S nJS lenJS bytJS u v (AF E.1.2.2.2.2.heap.size) E.1.2.2.2.2 E.1.2.2.2.2.heap) (hvR : ∀ i, i < nJS → vk_R ownJS (idJS.getD i 0) (txJS.getD i "") (u i) E.1.2.2.2.2) :
    GB E qL E.1.2.2.2.2.heap.size (lw_Z E.2.1.2.2.1 E.2.1.2.1 E.1.2.2.2.2) 0 0 0 ad ce 0 [(0, .ref b)] [] := by
  refine b_new (n := 0) (cells := 0) (slots := 0) (ci := 9) (N := 10) (fs := [.null, .null, .null, .null, .null, .null, .null, .null, .null, .int 0]) tyX9 inT_9 tyX9_ok v_68 v_69 v_51 rfl (by decide) ⟨Nat.le_of_ble_eq_true rfl, Nat.le_of_ble_eq_true rfl⟩ dL_law_0 (fun a0 ad1 ce1 h1 h2 h3 h4 => ?_)
  refine b_dup dL_law_3 rfl ?_
  refine b_init (n := 1) (cells := 1) (slots := 10) (rest := [.ref a0]) (As := []) lI_L_9 (cI9 _ _ _ _ _ _ _ h1 h3) ⟨Nat.le_of_ble_eq_true rfl, Nat.le_of_ble_eq_true rfl⟩ ⟨Nat.le_of_ble_eq_true rfl, Nat.le_of_ble_eq_true rfl⟩ rfl rfl (Nat.le_of_ble_eq_true rfl) dL_law_4 (fun n2 ad2 ce2 hp => ?_)
  obtain ⟨rfl, p1, p2, p3⟩ := hp
  refine b_astore_n (lv' := [(1, .ref a0), (0, .ref b)]) dL_law_7 rfl (by decide) rfl ?_
  refine b_new (n := 84) (cells := 84) (slots := 3691) (ci := 10) (N := 41) (fs := [.int 0, .int 0, .null, .null, .null, .null, .null, .null, .null, .null, .null, .null, .int 0, .int 0, .null, .null, .null, .null, .null, .null, .null, .null, .null, .null, .int 0, .int 0, .null, .null, .null, .null, .null, .null, .int 0, .int 0, .int 0, .int 0, .int 0, .int 0, .int 0, .int 0, .null]) tyX10 inT_10 tyX10_ok v_756 v_757 v_61 rfl (by decide) ⟨Nat.le_of_ble_eq_true rfl, Nat.le_of_ble_eq_true rfl⟩ dL_law_8 (fun a1 ad3 ce3 g1 g2 g3 g4 => ?_)
  refine b_dup dL_law_11 rfl ?_
  refine b_init (n := 85) (cells := 85) (slots := 3732) (rest := [.ref a1]) (As := []) lI_L_12 (cI10 _ _ _ _ _ _ _ g1 g3) ⟨Nat.le_of_ble_eq_true rfl, Nat.le_of_ble_eq_true rfl⟩ ⟨Nat.le_of_ble_eq_true rfl, Nat.le_of_ble_eq_true rfl⟩ rfl rfl (Nat.le_of_ble_eq_true rfl) dL_law_12 (fun n4 ad4 ce4 hp => ?_)
  obtain ⟨rfl, q1, q2, q3, q4⟩ := hp
  refine b_astore_n (lv' := [(2, .ref a1), (1, .ref a0), (0, .ref b)]) dL_law_15 rfl (by decide) rfl ?_
  refine b_iconst (v := nI 0) dL_law_16 (by decide) ?_
  refine b_istore_n (lv' := [(3, .int (nI 0)), (2, .ref a1), (1, .ref a0), (0, .ref b)]) dL_law_17 rfl (by decide) rfl ?_
  refine b_widen (k := 112) (z := 7495) (Nat.le_of_ble_eq_true rfl) (Nat.le_of_ble_eq_true rfl) ?_
  have r0 : ad4 0 = a0 := (q1 0 (by omega)).trans ((g2 0 (by omega)).trans p1)
  have r1 : ad4 84 = a1 := (q1 84 (by omega)).trans g1
  have r2 : ∀ j, j < 84 → ad4 j = ad2 j := fun j hj => (q1 j (by omega)).trans (g2 j (by omega))
  have r3 : ∀ j, j < 84 → ce4 j = ce2 j := fun j hj => (q2 j hj).trans (g4 j (by omega))
  have s0 : ce4 0 = .inr (9, [.ref (ad4 1), .ref (ad4 13), .ref (ad4 25), .ref (ad4 26), .ref (ad4 28), .ref (ad4 29), .ref (ad4 71), .ref (ad4 73), .ref (ad4 75), .int 0]) := by
    rw [r3 0 (by omega), p2, r2 1 (by omega), r2 13 (by omega), r2 25 (by omega), r2 26 (by omega), r2 28 (by omega), r2 29 (by omega), r2 71 (by omega), r2 73 (by omega), r2 75 (by omega)]
  have s1 : ∀ j, 1 ≤ j → j < 84 → ce4 j = BX E.2.2.2 ad4 j := fun j h5 h6 => by
    rw [r3 j h6, p3 j h5 h6]
    by_cases e25 : j = 25
    · subst e25
      show (.inl (E.2.2.2 16, 4, qf (rwf ad2 76 2 4)) : va_E) = .inl (E.2.2.2 16, 4, qf (rwf ad4 76 2 4))
      rw [rwf_congr (ad := ad2) (ad' := ad4) (fun k hk => r2 _ (by omega))]
    · exact BX_congr (n := 84) (Or.inr (Or.inr (Or.inr (Or.inr (Or.inr (Or.inr (Or.inr (Or.inr (Or.inr ⟨4, rfl⟩))))))))) h5 h6 e25 r2
  intro C ls H locs hl hw
  have hDD := hw.2.1
  have hfar : ∀ i, i < 112 → E.1.2.2.2.2.heap.size ≤ ad4 i := fun i hi => hDD.2 i _ (Wf_get hi)
  have hinj : ∀ i j, i < 112 → j < 112 → ad4 i = ad4 j → i = j := fun i j hi hj e => hDD.1 i j _ _ (Wf_get hi) (Wf_get hj) e
  have hfX : ∀ i, i < LX.1 → E.1.2.2.2.2.heap.size ≤ ad4 (gX i) := fun i hi => hfar _ (by have := gX_lt i hi; omega)
  have hfM : ∀ i, i < LM.1 → E.1.2.2.2.2.heap.size ≤ ad4 (84 + i) := fun i hi => hfar _ (by have : i < 28 := hi; omega)
  have hSX : SL (E.2.2.1, E.2.2.2, fun y => ad4 (gX y), u, v) LX E.1.2.2.2.2 := ⟨C.2.2.2.2.2.1.1, fun i j hi hj e => gX_inj i hi j hj (hinj _ _ (by have := gX_lt i hi; omega) (by have := gX_lt j hj; omega) e), ext0 hts hgv hvS hvR hfX, hfX⟩
  have hSM : SL (E.2.2.1, E.2.2.2, fun y => ad4 (84 + y), u, v) LM E.1.2.2.2.2 := ⟨C.2.2.2.2.2.1.1, fun i j hi hj e => by
    have hi : i < 28 := hi
    have hj : j < 28 := hj
    have := hinj (84 + i) (84 + j) (by omega) (by omega) e
    omega, ext0 hts hgv hvS hvR hfM, hfM⟩
  have hdis : ∀ i j, i < 84 → j < 28 → ad4 (gX i) ≠ ad4 (84 + j) := fun i j hi hj e => by
    have h5 := gX_lt i hi
    have := hinj (gX i) (84 + j) (by omega) (by omega) e
    omega
  rw [← r0, ← r1] at hl
  exact law_loop (E := (E.1, E.2.1, (E.2.2.1, E.2.2.2, fun y => ad4 (gX y), u, v), (E.2.2.1, E.2.2.2, fun y => ad4 (84 + y), u, v))) (xs := xs) hL (L + 7) 0 σ0 τ0 (by omega) (by omega) rel0 ⟨⟨C.1, C.2.1, C.2.2.1, C.2.2.2.1⟩, C.2.2.2.2.1, C.2.2.2.2.2.2.1, ⟨hX, hbl⟩, C.2.2.2.2.2.1.2.1, hSX, hSM, hdis, hargs, hr, hlocks⟩ ls H locs hl ⟨beginX (by omega) hw.1 s0 s1, beginM hw.1 q3 q4, hw.2.2⟩
/-- YOUR PART: from the entry, for every script of at most 3072 ints, the law comes to its end with true -/
theorem whole_start {p : Program} {e : Env} {s : State} {m : MethodId} {below : List Frame} {meth : Method} {c : Code} (l : Launch) {b L : Nat} {xs : Nat → Int32} (hL : L ≤ 3072) (C0 : lw_At p s m meth c b L xs) : W p l e room_1 s m #[Value.ref b] below meth c s.heap [] 0 0 (lw_Z below #[Value.ref b] s) (entryFrame m ([Value.ref b] : List Value).toArray 4) := by
  obtain ⟨hx, hb, hr, hml, hown, hts, hX, hbl, hlocks, hgv⟩ := id C0
  obtain ⟨D, cy, hKB⟩ := kb0 hts
  obtain ⟨u, v, hvS, hvR⟩ := texts0 hts hgv
  have hl := lv_entry ([.ref b]) (n := 4) (Nat.le_of_ble_eq_true rfl)
  rw [lg_entry_eq]
  generalize (lg_sl ([.ref b]) ++ List.replicate (4 - (lg_sl ([.ref b])).length) Slot.unset).toArray = ls at hl ⊢
  have hl : lv_has ls 4 [(0, .ref b)] := hl
  exact start_walk (E := ((p, l, e, room_1, s), (m, #[Value.ref b], below, meth, c), (D, cy))) (ad := fun _ => 0) (ce := fun _ => .inr (0, [])) hL rfl hX hbl hr hlocks hts hgv hvS hvR ⟨hx, hb, hml, hown, fun x h => hts x (List.mem_filter.mp h).1, hKB, rfl, Nat.le_refl _⟩ ls s.heap [] hl ⟨fun k q h => by simp [Wf] at h, ⟨fun i j p q h => by simp [Wf] at h, fun k q h => by simp [Wf] at h⟩, va_S.rf⟩
-- ===== YOUR PART ENDS =====
set_option maxHeartbeats 4000000 in
theorem lw_walk (l : Launch) (b : Addr) (xs : List Int32) : MetFree l x (headSpec (Jvm.Cond.code x code maxLocals ret :: tables_1) room_1) (lw_P b xs) (fun _ _ _ _ _ => True) lw_Q := by
  refine MetFree.of_bodyS (code := code) (maxLocals := maxLocals) (ret := ret) (by decide) ?_ ?_
  · intro args s m h hn
    obtain ⟨meth, c, h1, h2, h3, h4, h5, h6, -, -⟩ := Cond.code_spec hn (atoms_spec (ws := Jvm.Cond.code x code maxLocals ret :: tables_1) h _ List.mem_cons_self)
    exact ⟨meth, c, h1, h2, h3, h4, h5, h6⟩
  · intro p e s m args below meth c s₁ B hml0 hP _
    obtain ⟨rfl, hx, hbd, hgv⟩ := hP
    obtain ⟨scr, harrAt, hlist, hof, hsmall⟩ := hx
    obtain ⟨hcb, hkn, -, -⟩ := State.arrayAt?_spec harrAt
    have hown : s.vm.findClass R_law = some m.cls := findClass_of_methodNamed B.named
    have hts0 : ∀ c ∈ (Jvm.Cond.code x code maxLocals ret :: tables_1), c.before #[Value.ref b] s = true := atoms_spec (ws := Jvm.Cond.code x code maxLocals ret :: tables_1) B.pre
    have hts : ∀ w ∈ lw_tbl, w.before #[Value.ref b] s = true := k2_hts_sels lw_privs (fun w hw => hts0 w (List.mem_cons_of_mem _ hw)) lw_privs_ok
    have hml : c.maxLocals = 4 := B.maxLocals_eq (hts0 _ List.mem_cons_self)
    have X₀ : Stand p l e room_1 s m #[Value.ref b] below meth c s₁ [] 0 0 := Stand.of_body B
    have hh0 : s₁.heap = s.heap := by rw [B.state]; rfl
    have hsz : scr.slots.size = xs.length := by rw [← Array.length_toList, hlist, List.length_map]
    have hval : ∀ j : Nat, j < xs.length → scr.slots[j]? = some (.int (xs.getD j 0)) := fun j hj => by
      rw [← Array.getElem?_toList, hlist]
      simp [hj]
    have hbl : b < s.heap.size := (Array.getElem?_eq_some_iff.mp hcb).1
    have hX : va_X b xs.length (fun j => xs.getD j 0) s s.heap := ⟨scr, hcb, hof, hkn, hsz, hval⟩
    have K : W p l e room_1 s m #[Value.ref b] below meth c s₁.heap [] 0 0 (lw_Z below #[Value.ref b] s) (entryFrame m ([Value.ref b] : List Value).toArray 4) := by
      rw [hh0]
      exact whole_start l hbd ⟨B.exec, B.bytes, B.returns, hml, hown, hts, hX, hbl, B.notSynchronized, hgv⟩
    obtain ⟨t, a1, o, b1, b2, b3⟩ := K s₁ rfl X₀
    exact ⟨t, o, a1, b1, b2, b3⟩
theorem lw_pre_spec {args : Array Value} {s : State} (h : (Jvm.Cond.and given_1 narrow_1).before args s = true) (hr : rest_1_c.before args s = true) : ∃ (b : Addr) (xs : List Int32), lw_P b xs args s := by
  have hs := flat_of_before _ h
  have hq := flat_of_before _ hr
  have hc : (Cond.count 1).before args s = true := hs _ (by decide +kernel)
  have harr : (Cond.arrayOf (.arg 0) .int).before args s = true := hs _ (by decide +kernel)
  have hle : (Cond.le (.length (.arg 0)) (.int 3072)).before args s = true := hs _ (by decide +kernel)
  have hlen : (Cond.isInt (.length (.arg 0))).before args s = true := hq _ (by decide +kernel)
  have hall : (Cond.all (.arg 0) (.isInt (.elem (.arg 0) (.index 0)))).before args s = true := hq _ (by decide +kernel)
  obtain ⟨b, xs, hb, hx⟩ := State.ints_of_pre rfl harr hlen hall
  have hsm : xs.length < 2 ^ 31 := hx.choose_spec.2.2.2
  have hev : (Term.length (.arg 0)).eval args s none [] s = some (.int xs.length.toInt32) := hx.length_eval hb
  have hv := Cond.le_ints hev (show (Term.int 3072).eval args s none [] s = some (.int 3072) from rfl)
  have hd : xs.length.toInt32 ≤ 3072 := by
    simpa [Cond.before, Cond.holds, hv] using hle
  have hN : xs.length ≤ 3072 := (Int32.ofNat_le_ofNat hsm (by decide)).mp (show Int32.ofNat xs.length ≤ Int32.ofNat 3072 from hd)
  exact ⟨b, xs, Cond.one_arg hc (show args[0]? = some (.ref b) from hb), hx, hN, h⟩
theorem lw_comes (l : Launch) : Comes l x (Jvm.Cond.code x code maxLocals ret :: tables_1) room_1 (fun tb e args s => Calls_1 tb e args s ∧ rest_1 tb e args s ∧ Pre_1 tb e args s)
    (fun _ _ args s o t => lw_Q args s o t) := by
  intro p e ha hc hk s m args below hf hfit hheap happ hpre
  obtain ⟨b, xs, hP⟩ := lw_pre_spec hpre.2.2 hpre.2.1
  obtain ⟨k, o, h1, h2, h3, hQ⟩ := lw_walk l b xs p e ha hc hk s m args below hf ((Spec.applies_iff_loose hf).mp happ).1 hP trivial
  exact ⟨k, o, h1, h2, h3, hQ⟩
theorem lw_frame {s t : State} {o : Outcome} {args : Array Value} (h : Framed s o t [] 600000 7302250) :
    Framed s o t (fieldLocs frame_1_writes args s ++ arrayLocs frame_1_arrays args s ++ staticLocs frame_1_statics s) 600000 7302250 := h
theorem lw_limb (L : Cond) (hL : ∀ (args : Array Value) (s t : State), L.after args s (.returned (some (.int 1))) t = true) :
    ArmFor flags0 classFile x code maxLocals ret World_1 tables_1 room_1 Calls_1 rest_1 Pre_1
      (fun tb e a s o t => postC L tb e a s o t ∧ Framed s o t (fieldLocs frame_1_writes a s ++ arrayLocs frame_1_arrays a s ++ staticLocs frame_1_statics s) 600000 7302250) := by
  intro l _ _ _ p e ha hc hk s m args below hf hfit hheap happ hpre
  obtain ⟨k, o, h1, h2, h3, rfl, hF⟩ := lw_comes l p e ha hc hk s m args below hf hfit hheap happ hpre
  exact ⟨k, _, h1, h2, h3, hL args s _, lw_frame hF⟩
theorem i_vc : Claimed_1_1 ∧ Claimed_1_2 := ⟨lw_limb limb_1_1 (fun args s t => by simp [limb_1_1, Cond.after, Cond.holds, Cond.value]), lw_limb limb_1_2 (fun args s t => Cond.after_iff.mpr (by
  first | (rw [show limb_1_2 = Cond.eq .result (.int 1) from rfl, Cond.eq_ints (x := 1) (y := 1) rfl rfl]; simp; done) | (simp [limb_1_2, Cond.value, Term.eval]; done)))⟩
