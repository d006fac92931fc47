-- ===== the memories as the constructors leave them =====
def gX (x : Nat) : Nat := if x < 16 then ([0, 1, 13, 2, 14, 25, 26, 27, 28, 29, 30, 71, 72, 73, 74, 75] : List Nat).getD x 0 else if x < 26 then 3 + (x - 16) else if x < 36 then 15 + (x - 26) else if x < 40 then 76 + 2 * (x - 36) else if x < 44 then 77 + 2 * (x - 40) else if x < 64 then 31 + 2 * (x - 44) else 32 + 2 * (x - 64)
theorem gX_lt : ∀ x, x < 84 → gX x < 84 := by decide +kernel
theorem gX_inj : ∀ x, x < 84 → ∀ y, y < 84 → gX x = gX y → x = y := by decide +kernel
def σ0 : Mem := fun i k => if i = 44 then (if k = 3 then 200 else 0) else if i = 9 then (if k = 1 then 1 else 0) else if 36 ≤ i then (if i < 40 then (if k = 1 then 1 else 0) else 0) else 0
def τ0 : Mem := fun i k => if i = 13 then upd (fun _ => 0) 0 200 k else if i = 0 then (if k = 13 then 1 else 0) else 0
theorem arrV_congr {c : ClassId} {n : Nat} {f g : Nat → Value} (h : ∀ j, j < n → f j = g j) : arrV c n f = arrV c n g := by
  have e : (fun j : Fin n => f j.val) = (fun j : Fin n => g j.val) := funext (fun j => h j.val j.isLt)
  unfold arrV
  rw [e]
theorem at_q {D : va_G} {a n : Nat} {cA : ClassId} {f g : Nat → Option Nat} {H : Heap} (h : va_at D vwCl (a, .inl (cA, n, qf f)) H) (hfg : ∀ j, j < n → f j = g j) : va_at D vwCl (a, .inl (cA, n, .inr (.inr (.inr (.inr g))))) H := by
  have h1 : H[a]? = some (vp_cell cA (n, .inr (.inr (.inr (.inr f))))) := h
  show H[a]? = some (vp_cell cA (n, .inr (.inr (.inr (.inr g)))))
  rw [h1, vp_cell_q, vp_cell_q, arrV_congr (fun j hj => by rw [hfg j hj])]
theorem cx_1 (cy : Nat → ClassId) (ad : Nat → Nat) : cel cy (fun y => ad (gX y)) LX σ0 1 = BX cy ad 1 := rfl
theorem cx_2 (cy : Nat → ClassId) (ad : Nat → Nat) : cel cy (fun y => ad (gX y)) LX σ0 2 = BX cy ad 13 := rfl
theorem cx_6 (cy : Nat → ClassId) (ad : Nat → Nat) : cel cy (fun y => ad (gX y)) LX σ0 6 = BX cy ad 26 := rfl
theorem cx_7 (cy : Nat → ClassId) (ad : Nat → Nat) : cel cy (fun y => ad (gX y)) LX σ0 7 = BX cy ad 27 := rfl
theorem cx_8 (cy : Nat → ClassId) (ad : Nat → Nat) : cel cy (fun y => ad (gX y)) LX σ0 8 = BX cy ad 28 := rfl
theorem cx_9 (cy : Nat → ClassId) (ad : Nat → Nat) : cel cy (fun y => ad (gX y)) LX σ0 9 = BX cy ad 29 := rfl
theorem cx_11 (cy : Nat → ClassId) (ad : Nat → Nat) : cel cy (fun y => ad (gX y)) LX σ0 11 = BX cy ad 71 := rfl
theorem cx_12 (cy : Nat → ClassId) (ad : Nat → Nat) : cel cy (fun y => ad (gX y)) LX σ0 12 = BX cy ad 72 := rfl
theorem cx_13 (cy : Nat → ClassId) (ad : Nat → Nat) : cel cy (fun y => ad (gX y)) LX σ0 13 = BX cy ad 73 := rfl
theorem cx_14 (cy : Nat → ClassId) (ad : Nat → Nat) : cel cy (fun y => ad (gX y)) LX σ0 14 = BX cy ad 74 := rfl
theorem cx_15 (cy : Nat → ClassId) (ad : Nat → Nat) : cel cy (fun y => ad (gX y)) LX σ0 15 = BX cy ad 75 := rfl
theorem cx_16 (cy : Nat → ClassId) (ad : Nat → Nat) : cel cy (fun y => ad (gX y)) LX σ0 16 = BX cy ad 3 := rfl
theorem cx_17 (cy : Nat → ClassId) (ad : Nat → Nat) : cel cy (fun y => ad (gX y)) LX σ0 17 = BX cy ad 4 := rfl
theorem cx_18 (cy : Nat → ClassId) (ad : Nat → Nat) : cel cy (fun y => ad (gX y)) LX σ0 18 = BX cy ad 5 := rfl
theorem cx_19 (cy : Nat → ClassId) (ad : Nat → Nat) : cel cy (fun y => ad (gX y)) LX σ0 19 = BX cy ad 6 := rfl
theorem cx_20 (cy : Nat → ClassId) (ad : Nat → Nat) : cel cy (fun y => ad (gX y)) LX σ0 20 = BX cy ad 7 := rfl
theorem cx_21 (cy : Nat → ClassId) (ad : Nat → Nat) : cel cy (fun y => ad (gX y)) LX σ0 21 = BX cy ad 8 := rfl
theorem cx_22 (cy : Nat → ClassId) (ad : Nat → Nat) : cel cy (fun y => ad (gX y)) LX σ0 22 = BX cy ad 9 := rfl
theorem cx_23 (cy : Nat → ClassId) (ad : Nat → Nat) : cel cy (fun y => ad (gX y)) LX σ0 23 = BX cy ad 10 := rfl
theorem cx_24 (cy : Nat → ClassId) (ad : Nat → Nat) : cel cy (fun y => ad (gX y)) LX σ0 24 = BX cy ad 11 := rfl
theorem cx_25 (cy : Nat → ClassId) (ad : Nat → Nat) : cel cy (fun y => ad (gX y)) LX σ0 25 = BX cy ad 12 := rfl
theorem cx_26 (cy : Nat → ClassId) (ad : Nat → Nat) : cel cy (fun y => ad (gX y)) LX σ0 26 = BX cy ad 15 := rfl
theorem cx_27 (cy : Nat → ClassId) (ad : Nat → Nat) : cel cy (fun y => ad (gX y)) LX σ0 27 = BX cy ad 16 := rfl
theorem cx_28 (cy : Nat → ClassId) (ad : Nat → Nat) : cel cy (fun y => ad (gX y)) LX σ0 28 = BX cy ad 17 := rfl
theorem cx_29 (cy : Nat → ClassId) (ad : Nat → Nat) : cel cy (fun y => ad (gX y)) LX σ0 29 = BX cy ad 18 := rfl
theorem cx_30 (cy : Nat → ClassId) (ad : Nat → Nat) : cel cy (fun y => ad (gX y)) LX σ0 30 = BX cy ad 19 := rfl
theorem cx_31 (cy : Nat → ClassId) (ad : Nat → Nat) : cel cy (fun y => ad (gX y)) LX σ0 31 = BX cy ad 20 := rfl
theorem cx_32 (cy : Nat → ClassId) (ad : Nat → Nat) : cel cy (fun y => ad (gX y)) LX σ0 32 = BX cy ad 21 := rfl
theorem cx_33 (cy : Nat → ClassId) (ad : Nat → Nat) : cel cy (fun y => ad (gX y)) LX σ0 33 = BX cy ad 22 := rfl
theorem cx_34 (cy : Nat → ClassId) (ad : Nat → Nat) : cel cy (fun y => ad (gX y)) LX σ0 34 = BX cy ad 23 := rfl
theorem cx_35 (cy : Nat → ClassId) (ad : Nat → Nat) : cel cy (fun y => ad (gX y)) LX σ0 35 = BX cy ad 24 := rfl
theorem cx_36 (cy : Nat → ClassId) (ad : Nat → Nat) : cel cy (fun y => ad (gX y)) LX σ0 36 = BX cy ad 76 := rfl
theorem cx_37 (cy : Nat → ClassId) (ad : Nat → Nat) : cel cy (fun y => ad (gX y)) LX σ0 37 = BX cy ad 78 := rfl
theorem cx_38 (cy : Nat → ClassId) (ad : Nat → Nat) : cel cy (fun y => ad (gX y)) LX σ0 38 = BX cy ad 80 := rfl
theorem cx_39 (cy : Nat → ClassId) (ad : Nat → Nat) : cel cy (fun y => ad (gX y)) LX σ0 39 = BX cy ad 82 := rfl
theorem cx_40 (cy : Nat → ClassId) (ad : Nat → Nat) : cel cy (fun y => ad (gX y)) LX σ0 40 = BX cy ad 77 := rfl
theorem cx_41 (cy : Nat → ClassId) (ad : Nat → Nat) : cel cy (fun y => ad (gX y)) LX σ0 41 = BX cy ad 79 := rfl
theorem cx_42 (cy : Nat → ClassId) (ad : Nat → Nat) : cel cy (fun y => ad (gX y)) LX σ0 42 = BX cy ad 81 := rfl
theorem cx_43 (cy : Nat → ClassId) (ad : Nat → Nat) : cel cy (fun y => ad (gX y)) LX σ0 43 = BX cy ad 83 := rfl
theorem cx_44 (cy : Nat → ClassId) (ad : Nat → Nat) : cel cy (fun y => ad (gX y)) LX σ0 44 = BX cy ad 31 := rfl
theorem cx_45 (cy : Nat → ClassId) (ad : Nat → Nat) : cel cy (fun y => ad (gX y)) LX σ0 45 = BX cy ad 33 := rfl
theorem cx_46 (cy : Nat → ClassId) (ad : Nat → Nat) : cel cy (fun y => ad (gX y)) LX σ0 46 = BX cy ad 35 := rfl
theorem cx_47 (cy : Nat → ClassId) (ad : Nat → Nat) : cel cy (fun y => ad (gX y)) LX σ0 47 = BX cy ad 37 := rfl
theorem cx_48 (cy : Nat → ClassId) (ad : Nat → Nat) : cel cy (fun y => ad (gX y)) LX σ0 48 = BX cy ad 39 := rfl
theorem cx_49 (cy : Nat → ClassId) (ad : Nat → Nat) : cel cy (fun y => ad (gX y)) LX σ0 49 = BX cy ad 41 := rfl
theorem cx_50 (cy : Nat → ClassId) (ad : Nat → Nat) : cel cy (fun y => ad (gX y)) LX σ0 50 = BX cy ad 43 := rfl
theorem cx_51 (cy : Nat → ClassId) (ad : Nat → Nat) : cel cy (fun y => ad (gX y)) LX σ0 51 = BX cy ad 45 := rfl
theorem cx_52 (cy : Nat → ClassId) (ad : Nat → Nat) : cel cy (fun y => ad (gX y)) LX σ0 52 = BX cy ad 47 := rfl
theorem cx_53 (cy : Nat → ClassId) (ad : Nat → Nat) : cel cy (fun y => ad (gX y)) LX σ0 53 = BX cy ad 49 := rfl
theorem cx_54 (cy : Nat → ClassId) (ad : Nat → Nat) : cel cy (fun y => ad (gX y)) LX σ0 54 = BX cy ad 51 := rfl
theorem cx_55 (cy : Nat → ClassId) (ad : Nat → Nat) : cel cy (fun y => ad (gX y)) LX σ0 55 = BX cy ad 53 := rfl
theorem cx_56 (cy : Nat → ClassId) (ad : Nat → Nat) : cel cy (fun y => ad (gX y)) LX σ0 56 = BX cy ad 55 := rfl
theorem cx_57 (cy : Nat → ClassId) (ad : Nat → Nat) : cel cy (fun y => ad (gX y)) LX σ0 57 = BX cy ad 57 := rfl
theorem cx_58 (cy : Nat → ClassId) (ad : Nat → Nat) : cel cy (fun y => ad (gX y)) LX σ0 58 = BX cy ad 59 := rfl
theorem cx_59 (cy : Nat → ClassId) (ad : Nat → Nat) : cel cy (fun y => ad (gX y)) LX σ0 59 = BX cy ad 61 := rfl
theorem cx_60 (cy : Nat → ClassId) (ad : Nat → Nat) : cel cy (fun y => ad (gX y)) LX σ0 60 = BX cy ad 63 := rfl
theorem cx_61 (cy : Nat → ClassId) (ad : Nat → Nat) : cel cy (fun y => ad (gX y)) LX σ0 61 = BX cy ad 65 := rfl
theorem cx_62 (cy : Nat → ClassId) (ad : Nat → Nat) : cel cy (fun y => ad (gX y)) LX σ0 62 = BX cy ad 67 := rfl
theorem cx_63 (cy : Nat → ClassId) (ad : Nat → Nat) : cel cy (fun y => ad (gX y)) LX σ0 63 = BX cy ad 69 := rfl
theorem cx_64 (cy : Nat → ClassId) (ad : Nat → Nat) : cel cy (fun y => ad (gX y)) LX σ0 64 = BX cy ad 32 := rfl
theorem cx_65 (cy : Nat → ClassId) (ad : Nat → Nat) : cel cy (fun y => ad (gX y)) LX σ0 65 = BX cy ad 34 := rfl
theorem cx_66 (cy : Nat → ClassId) (ad : Nat → Nat) : cel cy (fun y => ad (gX y)) LX σ0 66 = BX cy ad 36 := rfl
theorem cx_67 (cy : Nat → ClassId) (ad : Nat → Nat) : cel cy (fun y => ad (gX y)) LX σ0 67 = BX cy ad 38 := rfl
theorem cx_68 (cy : Nat → ClassId) (ad : Nat → Nat) : cel cy (fun y => ad (gX y)) LX σ0 68 = BX cy ad 40 := rfl
theorem cx_69 (cy : Nat → ClassId) (ad : Nat → Nat) : cel cy (fun y => ad (gX y)) LX σ0 69 = BX cy ad 42 := rfl
theorem cx_70 (cy : Nat → ClassId) (ad : Nat → Nat) : cel cy (fun y => ad (gX y)) LX σ0 70 = BX cy ad 44 := rfl
theorem cx_71 (cy : Nat → ClassId) (ad : Nat → Nat) : cel cy (fun y => ad (gX y)) LX σ0 71 = BX cy ad 46 := rfl
theorem cx_72 (cy : Nat → ClassId) (ad : Nat → Nat) : cel cy (fun y => ad (gX y)) LX σ0 72 = BX cy ad 48 := rfl
theorem cx_73 (cy : Nat → ClassId) (ad : Nat → Nat) : cel cy (fun y => ad (gX y)) LX σ0 73 = BX cy ad 50 := rfl
theorem cx_74 (cy : Nat → ClassId) (ad : Nat → Nat) : cel cy (fun y => ad (gX y)) LX σ0 74 = BX cy ad 52 := rfl
theorem cx_75 (cy : Nat → ClassId) (ad : Nat → Nat) : cel cy (fun y => ad (gX y)) LX σ0 75 = BX cy ad 54 := rfl
theorem cx_76 (cy : Nat → ClassId) (ad : Nat → Nat) : cel cy (fun y => ad (gX y)) LX σ0 76 = BX cy ad 56 := rfl
theorem cx_77 (cy : Nat → ClassId) (ad : Nat → Nat) : cel cy (fun y => ad (gX y)) LX σ0 77 = BX cy ad 58 := rfl
theorem cx_78 (cy : Nat → ClassId) (ad : Nat → Nat) : cel cy (fun y => ad (gX y)) LX σ0 78 = BX cy ad 60 := rfl
theorem cx_79 (cy : Nat → ClassId) (ad : Nat → Nat) : cel cy (fun y => ad (gX y)) LX σ0 79 = BX cy ad 62 := rfl
theorem cx_80 (cy : Nat → ClassId) (ad : Nat → Nat) : cel cy (fun y => ad (gX y)) LX σ0 80 = BX cy ad 64 := rfl
theorem cx_81 (cy : Nat → ClassId) (ad : Nat → Nat) : cel cy (fun y => ad (gX y)) LX σ0 81 = BX cy ad 66 := rfl
theorem cx_82 (cy : Nat → ClassId) (ad : Nat → Nat) : cel cy (fun y => ad (gX y)) LX σ0 82 = BX cy ad 68 := rfl
theorem cx_83 (cy : Nat → ClassId) (ad : Nat → Nat) : cel cy (fun y => ad (gX y)) LX σ0 83 = BX cy ad 70 := rfl
theorem cx_0 (cy : Nat → ClassId) (ad : Nat → Nat) : cel cy (fun y => ad (gX y)) LX σ0 0 = .inr (9, [.ref (ad 1), .ref (ad 13), .ref (ad 25), .ref (ad 26), .ref (ad 28), .ref (ad 29), .ref (ad 71), .ref (ad 73), .ref (ad 75), .int 0]) := rfl
set_option maxRecDepth 100000 in
set_option maxHeartbeats 4000000 in
theorem beginX {D : va_G} {cy : Nat → ClassId} {ad : Nat → Nat} {ce : Nat → va_E} {H : Heap} {n : Nat} {u v : Nat → Nat} (hn : 84 ≤ n) (hP : va_P D vwCl (Wf n ad ce) H) (h0 : ce 0 = .inr (9, [.ref (ad 1), .ref (ad 13), .ref (ad 25), .ref (ad 26), .ref (ad 28), .ref (ad 29), .ref (ad 71), .ref (ad 73), .ref (ad 75), .int 0])) (hB : ∀ j, 1 ≤ j → j < 84 → ce j = BX cy ad j) : va_P D vwCl (wl (D, cy, fun y => ad (gX y), u, v) LX σ0) H := by
  intro k q hq
  obtain ⟨hk, -⟩ := wl_in hq
  rw [wl_get hk] at hq
  cases hq
  have hk : k < 84 := hk
  show va_at D vwCl (ad (gX k), cel cy (fun y => ad (gX y)) LX σ0 k) H
  rcases (show k = 0 ∨ k = 1 ∨ k = 2 ∨ k = 3 ∨ k = 4 ∨ k = 5 ∨ k = 6 ∨ k = 7 ∨ k = 8 ∨ k = 9 ∨ k = 10 ∨ k = 11 ∨ k = 12 ∨ k = 13 ∨ k = 14 ∨ k = 15 ∨ k = 16 ∨ k = 17 ∨ k = 18 ∨ k = 19 ∨ k = 20 ∨ k = 21 ∨ k = 22 ∨ k = 23 ∨ k = 24 ∨ k = 25 ∨ k = 26 ∨ k = 27 ∨ k = 28 ∨ k = 29 ∨ k = 30 ∨ k = 31 ∨ k = 32 ∨ k = 33 ∨ k = 34 ∨ k = 35 ∨ k = 36 ∨ k = 37 ∨ k = 38 ∨ k = 39 ∨ k = 40 ∨ k = 41 ∨ k = 42 ∨ k = 43 ∨ k = 44 ∨ k = 45 ∨ k = 46 ∨ k = 47 ∨ k = 48 ∨ k = 49 ∨ k = 50 ∨ k = 51 ∨ k = 52 ∨ k = 53 ∨ k = 54 ∨ k = 55 ∨ k = 56 ∨ k = 57 ∨ k = 58 ∨ k = 59 ∨ k = 60 ∨ k = 61 ∨ k = 62 ∨ k = 63 ∨ k = 64 ∨ k = 65 ∨ k = 66 ∨ k = 67 ∨ k = 68 ∨ k = 69 ∨ k = 70 ∨ k = 71 ∨ k = 72 ∨ k = 73 ∨ k = 74 ∨ k = 75 ∨ k = 76 ∨ k = 77 ∨ k = 78 ∨ k = 79 ∨ k = 80 ∨ k = 81 ∨ k = 82 ∨ k = 83 by omega) with rfl | rfl | rfl | rfl | rfl | rfl | rfl | rfl | rfl | rfl | rfl | rfl | rfl | rfl | rfl | rfl | rfl | rfl | rfl | rfl | rfl | rfl | rfl | rfl | rfl | rfl | rfl | rfl | rfl | rfl | rfl | rfl | rfl | rfl | rfl | rfl | rfl | rfl | rfl | rfl | rfl | rfl | rfl | rfl | rfl | rfl | rfl | rfl | rfl | rfl | rfl | rfl | rfl | rfl | rfl | rfl | rfl | rfl | rfl | rfl | rfl | rfl | rfl | rfl | rfl | rfl | rfl | rfl | rfl | rfl | rfl | rfl | rfl | rfl | rfl | rfl | rfl | rfl | rfl | rfl | rfl | rfl | rfl | rfl
  · have h1 := hP 0 _ (Wf_get (by omega))
    rw [h0, ← cx_0] at h1
    exact h1
  · have h1 := hP 1 _ (Wf_get (by omega))
    rw [hB 1 (by omega) (by omega), ← cx_1] at h1
    exact h1
  · have h1 := hP 13 _ (Wf_get (by omega))
    rw [hB 13 (by omega) (by omega), ← cx_2] at h1
    exact h1
  · have h1 := hP 2 _ (Wf_get (by omega))
    rw [hB 2 (by omega) (by omega)] at h1
    exact at_q (f := rwf ad 3 1 10) (g := fun k => some (ad (gX (rfX 3 k)))) h1 (fun j hj => by
      have e : ∀ j, j < 10 → 3 + 1 * j = gX (rfX 3 j) := by decide
      have hj : j < 10 := hj
      unfold rwf; rw [if_pos hj, e j hj])
  · have h1 := hP 14 _ (Wf_get (by omega))
    rw [hB 14 (by omega) (by omega)] at h1
    exact at_q (f := rwf ad 15 1 10) (g := fun k => some (ad (gX (rfX 4 k)))) h1 (fun j hj => by
      have e : ∀ j, j < 10 → 15 + 1 * j = gX (rfX 4 j) := by decide
      have hj : j < 10 := hj
      unfold rwf; rw [if_pos hj, e j hj])
  · have h1 := hP 25 _ (Wf_get (by omega))
    rw [hB 25 (by omega) (by omega)] at h1
    exact at_q (f := rwf ad 76 2 4) (g := fun k => some (ad (gX (rfX 5 k)))) h1 (fun j hj => by
      have e : ∀ j, j < 4 → 76 + 2 * j = gX (rfX 5 j) := by decide
      have hj : j < 4 := hj
      unfold rwf; rw [if_pos hj, e j hj])
  · have h1 := hP 26 _ (Wf_get (by omega))
    rw [hB 26 (by omega) (by omega), ← cx_6] at h1
    exact h1
  · have h1 := hP 27 _ (Wf_get (by omega))
    rw [hB 27 (by omega) (by omega), ← cx_7] at h1
    exact h1
  · have h1 := hP 28 _ (Wf_get (by omega))
    rw [hB 28 (by omega) (by omega), ← cx_8] at h1
    exact h1
  · have h1 := hP 29 _ (Wf_get (by omega))
    rw [hB 29 (by omega) (by omega), ← cx_9] at h1
    exact h1
  · have h1 := hP 30 _ (Wf_get (by omega))
    rw [hB 30 (by omega) (by omega)] at h1
    exact at_q (f := rwf ad 31 2 20) (g := fun k => some (ad (gX (rfX 10 k)))) h1 (fun j hj => by
      have e : ∀ j, j < 20 → 31 + 2 * j = gX (rfX 10 j) := by decide
      have hj : j < 20 := hj
      unfold rwf; rw [if_pos hj, e j hj])
  · have h1 := hP 71 _ (Wf_get (by omega))
    rw [hB 71 (by omega) (by omega), ← cx_11] at h1
    exact h1
  · have h1 := hP 72 _ (Wf_get (by omega))
    rw [hB 72 (by omega) (by omega), ← cx_12] at h1
    exact h1
  · have h1 := hP 73 _ (Wf_get (by omega))
    rw [hB 73 (by omega) (by omega), ← cx_13] at h1
    exact h1
  · have h1 := hP 74 _ (Wf_get (by omega))
    rw [hB 74 (by omega) (by omega), ← cx_14] at h1
    exact h1
  · have h1 := hP 75 _ (Wf_get (by omega))
    rw [hB 75 (by omega) (by omega), ← cx_15] at h1
    exact h1
  · have h1 := hP 3 _ (Wf_get (by omega))
    rw [hB 3 (by omega) (by omega), ← cx_16] at h1
    exact h1
  · have h1 := hP 4 _ (Wf_get (by omega))
    rw [hB 4 (by omega) (by omega), ← cx_17] at h1
    exact h1
  · have h1 := hP 5 _ (Wf_get (by omega))
    rw [hB 5 (by omega) (by omega), ← cx_18] at h1
    exact h1
  · have h1 := hP 6 _ (Wf_get (by omega))
    rw [hB 6 (by omega) (by omega), ← cx_19] at h1
    exact h1
  · have h1 := hP 7 _ (Wf_get (by omega))
    rw [hB 7 (by omega) (by omega), ← cx_20] at h1
    exact h1
  · have h1 := hP 8 _ (Wf_get (by omega))
    rw [hB 8 (by omega) (by omega), ← cx_21] at h1
    exact h1
  · have h1 := hP 9 _ (Wf_get (by omega))
    rw [hB 9 (by omega) (by omega), ← cx_22] at h1
    exact h1
  · have h1 := hP 10 _ (Wf_get (by omega))
    rw [hB 10 (by omega) (by omega), ← cx_23] at h1
    exact h1
  · have h1 := hP 11 _ (Wf_get (by omega))
    rw [hB 11 (by omega) (by omega), ← cx_24] at h1
    exact h1
  · have h1 := hP 12 _ (Wf_get (by omega))
    rw [hB 12 (by omega) (by omega), ← cx_25] at h1
    exact h1
  · have h1 := hP 15 _ (Wf_get (by omega))
    rw [hB 15 (by omega) (by omega), ← cx_26] at h1
    exact h1
  · have h1 := hP 16 _ (Wf_get (by omega))
    rw [hB 16 (by omega) (by omega), ← cx_27] at h1
    exact h1
  · have h1 := hP 17 _ (Wf_get (by omega))
    rw [hB 17 (by omega) (by omega), ← cx_28] at h1
    exact h1
  · have h1 := hP 18 _ (Wf_get (by omega))
    rw [hB 18 (by omega) (by omega), ← cx_29] at h1
    exact h1
  · have h1 := hP 19 _ (Wf_get (by omega))
    rw [hB 19 (by omega) (by omega), ← cx_30] at h1
    exact h1
  · have h1 := hP 20 _ (Wf_get (by omega))
    rw [hB 20 (by omega) (by omega), ← cx_31] at h1
    exact h1
  · have h1 := hP 21 _ (Wf_get (by omega))
    rw [hB 21 (by omega) (by omega), ← cx_32] at h1
    exact h1
  · have h1 := hP 22 _ (Wf_get (by omega))
    rw [hB 22 (by omega) (by omega), ← cx_33] at h1
    exact h1
  · have h1 := hP 23 _ (Wf_get (by omega))
    rw [hB 23 (by omega) (by omega), ← cx_34] at h1
    exact h1
  · have h1 := hP 24 _ (Wf_get (by omega))
    rw [hB 24 (by omega) (by omega), ← cx_35] at h1
    exact h1
  · have h1 := hP 76 _ (Wf_get (by omega))
    rw [hB 76 (by omega) (by omega), ← cx_36] at h1
    exact h1
  · have h1 := hP 78 _ (Wf_get (by omega))
    rw [hB 78 (by omega) (by omega), ← cx_37] at h1
    exact h1
  · have h1 := hP 80 _ (Wf_get (by omega))
    rw [hB 80 (by omega) (by omega), ← cx_38] at h1
    exact h1
  · have h1 := hP 82 _ (Wf_get (by omega))
    rw [hB 82 (by omega) (by omega), ← cx_39] at h1
    exact h1
  · have h1 := hP 77 _ (Wf_get (by omega))
    rw [hB 77 (by omega) (by omega), ← cx_40] at h1
    exact h1
  · have h1 := hP 79 _ (Wf_get (by omega))
    rw [hB 79 (by omega) (by omega), ← cx_41] at h1
    exact h1
  · have h1 := hP 81 _ (Wf_get (by omega))
    rw [hB 81 (by omega) (by omega), ← cx_42] at h1
    exact h1
  · have h1 := hP 83 _ (Wf_get (by omega))
    rw [hB 83 (by omega) (by omega), ← cx_43] at h1
    exact h1
  · have h1 := hP 31 _ (Wf_get (by omega))
    rw [hB 31 (by omega) (by omega), ← cx_44] at h1
    exact h1
  · have h1 := hP 33 _ (Wf_get (by omega))
    rw [hB 33 (by omega) (by omega), ← cx_45] at h1
    exact h1
  · have h1 := hP 35 _ (Wf_get (by omega))
    rw [hB 35 (by omega) (by omega), ← cx_46] at h1
    exact h1
  · have h1 := hP 37 _ (Wf_get (by omega))
    rw [hB 37 (by omega) (by omega), ← cx_47] at h1
    exact h1
  · have h1 := hP 39 _ (Wf_get (by omega))
    rw [hB 39 (by omega) (by omega), ← cx_48] at h1
    exact h1
  · have h1 := hP 41 _ (Wf_get (by omega))
    rw [hB 41 (by omega) (by omega), ← cx_49] at h1
    exact h1
  · have h1 := hP 43 _ (Wf_get (by omega))
    rw [hB 43 (by omega) (by omega), ← cx_50] at h1
    exact h1
  · have h1 := hP 45 _ (Wf_get (by omega))
    rw [hB 45 (by omega) (by omega), ← cx_51] at h1
    exact h1
  · have h1 := hP 47 _ (Wf_get (by omega))
    rw [hB 47 (by omega) (by omega), ← cx_52] at h1
    exact h1
  · have h1 := hP 49 _ (Wf_get (by omega))
    rw [hB 49 (by omega) (by omega), ← cx_53] at h1
    exact h1
  · have h1 := hP 51 _ (Wf_get (by omega))
    rw [hB 51 (by omega) (by omega), ← cx_54] at h1
    exact h1
  · have h1 := hP 53 _ (Wf_get (by omega))
    rw [hB 53 (by omega) (by omega), ← cx_55] at h1
    exact h1
  · have h1 := hP 55 _ (Wf_get (by omega))
    rw [hB 55 (by omega) (by omega), ← cx_56] at h1
    exact h1
  · have h1 := hP 57 _ (Wf_get (by omega))
    rw [hB 57 (by omega) (by omega), ← cx_57] at h1
    exact h1
  · have h1 := hP 59 _ (Wf_get (by omega))
    rw [hB 59 (by omega) (by omega), ← cx_58] at h1
    exact h1
  · have h1 := hP 61 _ (Wf_get (by omega))
    rw [hB 61 (by omega) (by omega), ← cx_59] at h1
    exact h1
  · have h1 := hP 63 _ (Wf_get (by omega))
    rw [hB 63 (by omega) (by omega), ← cx_60] at h1
    exact h1
  · have h1 := hP 65 _ (Wf_get (by omega))
    rw [hB 65 (by omega) (by omega), ← cx_61] at h1
    exact h1
  · have h1 := hP 67 _ (Wf_get (by omega))
    rw [hB 67 (by omega) (by omega), ← cx_62] at h1
    exact h1
  · have h1 := hP 69 _ (Wf_get (by omega))
    rw [hB 69 (by omega) (by omega), ← cx_63] at h1
    exact h1
  · have h1 := hP 32 _ (Wf_get (by omega))
    rw [hB 32 (by omega) (by omega), ← cx_64] at h1
    exact h1
  · have h1 := hP 34 _ (Wf_get (by omega))
    rw [hB 34 (by omega) (by omega), ← cx_65] at h1
    exact h1
  · have h1 := hP 36 _ (Wf_get (by omega))
    rw [hB 36 (by omega) (by omega), ← cx_66] at h1
    exact h1
  · have h1 := hP 38 _ (Wf_get (by omega))
    rw [hB 38 (by omega) (by omega), ← cx_67] at h1
    exact h1
  · have h1 := hP 40 _ (Wf_get (by omega))
    rw [hB 40 (by omega) (by omega), ← cx_68] at h1
    exact h1
  · have h1 := hP 42 _ (Wf_get (by omega))
    rw [hB 42 (by omega) (by omega), ← cx_69] at h1
    exact h1
  · have h1 := hP 44 _ (Wf_get (by omega))
    rw [hB 44 (by omega) (by omega), ← cx_70] at h1
    exact h1
  · have h1 := hP 46 _ (Wf_get (by omega))
    rw [hB 46 (by omega) (by omega), ← cx_71] at h1
    exact h1
  · have h1 := hP 48 _ (Wf_get (by omega))
    rw [hB 48 (by omega) (by omega), ← cx_72] at h1
    exact h1
  · have h1 := hP 50 _ (Wf_get (by omega))
    rw [hB 50 (by omega) (by omega), ← cx_73] at h1
    exact h1
  · have h1 := hP 52 _ (Wf_get (by omega))
    rw [hB 52 (by omega) (by omega), ← cx_74] at h1
    exact h1
  · have h1 := hP 54 _ (Wf_get (by omega))
    rw [hB 54 (by omega) (by omega), ← cx_75] at h1
    exact h1
  · have h1 := hP 56 _ (Wf_get (by omega))
    rw [hB 56 (by omega) (by omega), ← cx_76] at h1
    exact h1
  · have h1 := hP 58 _ (Wf_get (by omega))
    rw [hB 58 (by omega) (by omega), ← cx_77] at h1
    exact h1
  · have h1 := hP 60 _ (Wf_get (by omega))
    rw [hB 60 (by omega) (by omega), ← cx_78] at h1
    exact h1
  · have h1 := hP 62 _ (Wf_get (by omega))
    rw [hB 62 (by omega) (by omega), ← cx_79] at h1
    exact h1
  · have h1 := hP 64 _ (Wf_get (by omega))
    rw [hB 64 (by omega) (by omega), ← cx_80] at h1
    exact h1
  · have h1 := hP 66 _ (Wf_get (by omega))
    rw [hB 66 (by omega) (by omega), ← cx_81] at h1
    exact h1
  · have h1 := hP 68 _ (Wf_get (by omega))
    rw [hB 68 (by omega) (by omega), ← cx_82] at h1
    exact h1
  · have h1 := hP 70 _ (Wf_get (by omega))
    rw [hB 70 (by omega) (by omega), ← cx_83] at h1
    exact h1
theorem cm_0 (cy : Nat → ClassId) (ad : Nat → Nat) : cel cy (fun y => ad (84 + y)) LM τ0 0 = .inr (10, [.int 0, .int 0, .ref (ad 85), .ref (ad 86), .ref (ad 87), .ref (ad 88), .ref (ad 89), .ref (ad 90), .ref (ad 91), .ref (ad 92), .ref (ad 93), .ref (ad 94), .int 0, .int 1, .ref (ad 95), .ref (ad 96), .ref (ad 97), .ref (ad 98), .ref (ad 99), .ref (ad 100), .ref (ad 101), .ref (ad 102), .ref (ad 103), .ref (ad 104), .int 0, .int 0, .ref (ad 105), .ref (ad 106), .ref (ad 107), .ref (ad 108), .ref (ad 109), .ref (ad 110), .int 0, .int 0, .int 0, .int 0, .int 0, .int 0, .int 0, .int 0, .ref (ad 111)]) := rfl
theorem cm_1 (cy : Nat → ClassId) (ad : Nat → Nat) : cel cy (fun y => ad (84 + y)) LM τ0 1 = (if 0 = 12 then .inl (cy 12, 20, .inl (upd (fun _ => 0) 0 200)) else ARM cy 0 : va_E) := rfl
theorem cm_2 (cy : Nat → ClassId) (ad : Nat → Nat) : cel cy (fun y => ad (84 + y)) LM τ0 2 = (if 1 = 12 then .inl (cy 12, 20, .inl (upd (fun _ => 0) 0 200)) else ARM cy 1 : va_E) := rfl
theorem cm_3 (cy : Nat → ClassId) (ad : Nat → Nat) : cel cy (fun y => ad (84 + y)) LM τ0 3 = (if 2 = 12 then .inl (cy 12, 20, .inl (upd (fun _ => 0) 0 200)) else ARM cy 2 : va_E) := rfl
theorem cm_4 (cy : Nat → ClassId) (ad : Nat → Nat) : cel cy (fun y => ad (84 + y)) LM τ0 4 = (if 3 = 12 then .inl (cy 12, 20, .inl (upd (fun _ => 0) 0 200)) else ARM cy 3 : va_E) := rfl
theorem cm_5 (cy : Nat → ClassId) (ad : Nat → Nat) : cel cy (fun y => ad (84 + y)) LM τ0 5 = (if 4 = 12 then .inl (cy 12, 20, .inl (upd (fun _ => 0) 0 200)) else ARM cy 4 : va_E) := rfl
theorem cm_6 (cy : Nat → ClassId) (ad : Nat → Nat) : cel cy (fun y => ad (84 + y)) LM τ0 6 = (if 5 = 12 then .inl (cy 12, 20, .inl (upd (fun _ => 0) 0 200)) else ARM cy 5 : va_E) := rfl
theorem cm_7 (cy : Nat → ClassId) (ad : Nat → Nat) : cel cy (fun y => ad (84 + y)) LM τ0 7 = (if 6 = 12 then .inl (cy 12, 20, .inl (upd (fun _ => 0) 0 200)) else ARM cy 6 : va_E) := rfl
theorem cm_8 (cy : Nat → ClassId) (ad : Nat → Nat) : cel cy (fun y => ad (84 + y)) LM τ0 8 = (if 7 = 12 then .inl (cy 12, 20, .inl (upd (fun _ => 0) 0 200)) else ARM cy 7 : va_E) := rfl
theorem cm_9 (cy : Nat → ClassId) (ad : Nat → Nat) : cel cy (fun y => ad (84 + y)) LM τ0 9 = (if 8 = 12 then .inl (cy 12, 20, .inl (upd (fun _ => 0) 0 200)) else ARM cy 8 : va_E) := rfl
theorem cm_10 (cy : Nat → ClassId) (ad : Nat → Nat) : cel cy (fun y => ad (84 + y)) LM τ0 10 = (if 9 = 12 then .inl (cy 12, 20, .inl (upd (fun _ => 0) 0 200)) else ARM cy 9 : va_E) := rfl
theorem cm_11 (cy : Nat → ClassId) (ad : Nat → Nat) : cel cy (fun y => ad (84 + y)) LM τ0 11 = (if 10 = 12 then .inl (cy 12, 20, .inl (upd (fun _ => 0) 0 200)) else ARM cy 10 : va_E) := rfl
theorem cm_12 (cy : Nat → ClassId) (ad : Nat → Nat) : cel cy (fun y => ad (84 + y)) LM τ0 12 = (if 11 = 12 then .inl (cy 12, 20, .inl (upd (fun _ => 0) 0 200)) else ARM cy 11 : va_E) := rfl
theorem cm_13 (cy : Nat → ClassId) (ad : Nat → Nat) : cel cy (fun y => ad (84 + y)) LM τ0 13 = (if 12 = 12 then .inl (cy 12, 20, .inl (upd (fun _ => 0) 0 200)) else ARM cy 12 : va_E) := rfl
theorem cm_14 (cy : Nat → ClassId) (ad : Nat → Nat) : cel cy (fun y => ad (84 + y)) LM τ0 14 = (if 13 = 12 then .inl (cy 12, 20, .inl (upd (fun _ => 0) 0 200)) else ARM cy 13 : va_E) := rfl
theorem cm_15 (cy : Nat → ClassId) (ad : Nat → Nat) : cel cy (fun y => ad (84 + y)) LM τ0 15 = (if 14 = 12 then .inl (cy 12, 20, .inl (upd (fun _ => 0) 0 200)) else ARM cy 14 : va_E) := rfl
theorem cm_16 (cy : Nat → ClassId) (ad : Nat → Nat) : cel cy (fun y => ad (84 + y)) LM τ0 16 = (if 15 = 12 then .inl (cy 12, 20, .inl (upd (fun _ => 0) 0 200)) else ARM cy 15 : va_E) := rfl
theorem cm_17 (cy : Nat → ClassId) (ad : Nat → Nat) : cel cy (fun y => ad (84 + y)) LM τ0 17 = (if 16 = 12 then .inl (cy 12, 20, .inl (upd (fun _ => 0) 0 200)) else ARM cy 16 : va_E) := rfl
theorem cm_18 (cy : Nat → ClassId) (ad : Nat → Nat) : cel cy (fun y => ad (84 + y)) LM τ0 18 = (if 17 = 12 then .inl (cy 12, 20, .inl (upd (fun _ => 0) 0 200)) else ARM cy 17 : va_E) := rfl
theorem cm_19 (cy : Nat → ClassId) (ad : Nat → Nat) : cel cy (fun y => ad (84 + y)) LM τ0 19 = (if 18 = 12 then .inl (cy 12, 20, .inl (upd (fun _ => 0) 0 200)) else ARM cy 18 : va_E) := rfl
theorem cm_20 (cy : Nat → ClassId) (ad : Nat → Nat) : cel cy (fun y => ad (84 + y)) LM τ0 20 = (if 19 = 12 then .inl (cy 12, 20, .inl (upd (fun _ => 0) 0 200)) else ARM cy 19 : va_E) := rfl
theorem cm_21 (cy : Nat → ClassId) (ad : Nat → Nat) : cel cy (fun y => ad (84 + y)) LM τ0 21 = (if 20 = 12 then .inl (cy 12, 20, .inl (upd (fun _ => 0) 0 200)) else ARM cy 20 : va_E) := rfl
theorem cm_22 (cy : Nat → ClassId) (ad : Nat → Nat) : cel cy (fun y => ad (84 + y)) LM τ0 22 = (if 21 = 12 then .inl (cy 12, 20, .inl (upd (fun _ => 0) 0 200)) else ARM cy 21 : va_E) := rfl
theorem cm_23 (cy : Nat → ClassId) (ad : Nat → Nat) : cel cy (fun y => ad (84 + y)) LM τ0 23 = (if 22 = 12 then .inl (cy 12, 20, .inl (upd (fun _ => 0) 0 200)) else ARM cy 22 : va_E) := rfl
theorem cm_24 (cy : Nat → ClassId) (ad : Nat → Nat) : cel cy (fun y => ad (84 + y)) LM τ0 24 = (if 23 = 12 then .inl (cy 12, 20, .inl (upd (fun _ => 0) 0 200)) else ARM cy 23 : va_E) := rfl
theorem cm_25 (cy : Nat → ClassId) (ad : Nat → Nat) : cel cy (fun y => ad (84 + y)) LM τ0 25 = (if 24 = 12 then .inl (cy 12, 20, .inl (upd (fun _ => 0) 0 200)) else ARM cy 24 : va_E) := rfl
theorem cm_26 (cy : Nat → ClassId) (ad : Nat → Nat) : cel cy (fun y => ad (84 + y)) LM τ0 26 = (if 25 = 12 then .inl (cy 12, 20, .inl (upd (fun _ => 0) 0 200)) else ARM cy 25 : va_E) := rfl
theorem cm_27 (cy : Nat → ClassId) (ad : Nat → Nat) : cel cy (fun y => ad (84 + y)) LM τ0 27 = (if 26 = 12 then .inl (cy 12, 20, .inl (upd (fun _ => 0) 0 200)) else ARM cy 26 : va_E) := rfl
set_option maxRecDepth 100000 in
set_option maxHeartbeats 4000000 in
theorem beginM {D : va_G} {cy : Nat → ClassId} {ad : Nat → Nat} {ce : Nat → va_E} {H : Heap} {u v : Nat → Nat} (hP : va_P D vwCl (Wf 112 ad ce) H) (h0 : ce 84 = .inr (10, [.int 0, .int 0, .ref (ad 85), .ref (ad 86), .ref (ad 87), .ref (ad 88), .ref (ad 89), .ref (ad 90), .ref (ad 91), .ref (ad 92), .ref (ad 93), .ref (ad 94), .int 0, .int 1, .ref (ad 95), .ref (ad 96), .ref (ad 97), .ref (ad 98), .ref (ad 99), .ref (ad 100), .ref (ad 101), .ref (ad 102), .ref (ad 103), .ref (ad 104), .int 0, .int 0, .ref (ad 105), .ref (ad 106), .ref (ad 107), .ref (ad 108), .ref (ad 109), .ref (ad 110), .int 0, .int 0, .int 0, .int 0, .int 0, .int 0, .int 0, .int 0, .ref (ad 111)])) (hB : ∀ j, j < 27 → ce (85 + j) = (if j = 12 then .inl (cy 12, 20, .inl (upd (fun _ => 0) 0 200)) else ARM cy j)) : va_P D vwCl (wl (D, cy, fun y => ad (84 + y), u, v) LM τ0) H := by
  intro k q hq
  obtain ⟨hk, -⟩ := wl_in hq
  rw [wl_get hk] at hq
  cases hq
  have hk : k < 28 := hk
  show va_at D vwCl (ad (84 + k), cel cy (fun y => ad (84 + y)) LM τ0 k) H
  rcases (show k = 0 ∨ k = 1 ∨ k = 2 ∨ k = 3 ∨ k = 4 ∨ k = 5 ∨ k = 6 ∨ k = 7 ∨ k = 8 ∨ k = 9 ∨ k = 10 ∨ k = 11 ∨ k = 12 ∨ k = 13 ∨ k = 14 ∨ k = 15 ∨ k = 16 ∨ k = 17 ∨ k = 18 ∨ k = 19 ∨ k = 20 ∨ k = 21 ∨ k = 22 ∨ k = 23 ∨ k = 24 ∨ k = 25 ∨ k = 26 ∨ k = 27 by omega) with rfl | rfl | rfl | rfl | rfl | rfl | rfl | rfl | rfl | rfl | rfl | rfl | rfl | rfl | rfl | rfl | rfl | rfl | rfl | rfl | rfl | rfl | rfl | rfl | rfl | rfl | rfl | rfl
  · have h1 := hP 84 _ (Wf_get (by omega))
    rw [h0, ← cm_0] at h1
    exact h1
  · have h1 := hP 85 _ (Wf_get (by omega))
    rw [show ce 85 = _ from hB 0 (by omega), ← cm_1] at h1
    exact h1
  · have h1 := hP 86 _ (Wf_get (by omega))
    rw [show ce 86 = _ from hB 1 (by omega), ← cm_2] at h1
    exact h1
  · have h1 := hP 87 _ (Wf_get (by omega))
    rw [show ce 87 = _ from hB 2 (by omega), ← cm_3] at h1
    exact h1
  · have h1 := hP 88 _ (Wf_get (by omega))
    rw [show ce 88 = _ from hB 3 (by omega), ← cm_4] at h1
    exact h1
  · have h1 := hP 89 _ (Wf_get (by omega))
    rw [show ce 89 = _ from hB 4 (by omega), ← cm_5] at h1
    exact h1
  · have h1 := hP 90 _ (Wf_get (by omega))
    rw [show ce 90 = _ from hB 5 (by omega), ← cm_6] at h1
    exact h1
  · have h1 := hP 91 _ (Wf_get (by omega))
    rw [show ce 91 = _ from hB 6 (by omega), ← cm_7] at h1
    exact h1
  · have h1 := hP 92 _ (Wf_get (by omega))
    rw [show ce 92 = _ from hB 7 (by omega), ← cm_8] at h1
    exact h1
  · have h1 := hP 93 _ (Wf_get (by omega))
    rw [show ce 93 = _ from hB 8 (by omega), ← cm_9] at h1
    exact h1
  · have h1 := hP 94 _ (Wf_get (by omega))
    rw [show ce 94 = _ from hB 9 (by omega), ← cm_10] at h1
    exact h1
  · have h1 := hP 95 _ (Wf_get (by omega))
    rw [show ce 95 = _ from hB 10 (by omega), ← cm_11] at h1
    exact h1
  · have h1 := hP 96 _ (Wf_get (by omega))
    rw [show ce 96 = _ from hB 11 (by omega), ← cm_12] at h1
    exact h1
  · have h1 := hP 97 _ (Wf_get (by omega))
    rw [show ce 97 = _ from hB 12 (by omega), ← cm_13] at h1
    exact h1
  · have h1 := hP 98 _ (Wf_get (by omega))
    rw [show ce 98 = _ from hB 13 (by omega), ← cm_14] at h1
    exact h1
  · have h1 := hP 99 _ (Wf_get (by omega))
    rw [show ce 99 = _ from hB 14 (by omega), ← cm_15] at h1
    exact h1
  · have h1 := hP 100 _ (Wf_get (by omega))
    rw [show ce 100 = _ from hB 15 (by omega), ← cm_16] at h1
    exact h1
  · have h1 := hP 101 _ (Wf_get (by omega))
    rw [show ce 101 = _ from hB 16 (by omega), ← cm_17] at h1
    exact h1
  · have h1 := hP 102 _ (Wf_get (by omega))
    rw [show ce 102 = _ from hB 17 (by omega), ← cm_18] at h1
    exact h1
  · have h1 := hP 103 _ (Wf_get (by omega))
    rw [show ce 103 = _ from hB 18 (by omega), ← cm_19] at h1
    exact h1
  · have h1 := hP 104 _ (Wf_get (by omega))
    rw [show ce 104 = _ from hB 19 (by omega), ← cm_20] at h1
    exact h1
  · have h1 := hP 105 _ (Wf_get (by omega))
    rw [show ce 105 = _ from hB 20 (by omega), ← cm_21] at h1
    exact h1
  · have h1 := hP 106 _ (Wf_get (by omega))
    rw [show ce 106 = _ from hB 21 (by omega), ← cm_22] at h1
    exact h1
  · have h1 := hP 107 _ (Wf_get (by omega))
    rw [show ce 107 = _ from hB 22 (by omega), ← cm_23] at h1
    exact h1
  · have h1 := hP 108 _ (Wf_get (by omega))
    rw [show ce 108 = _ from hB 23 (by omega), ← cm_24] at h1
    exact h1
  · have h1 := hP 109 _ (Wf_get (by omega))
    rw [show ce 109 = _ from hB 24 (by omega), ← cm_25] at h1
    exact h1
  · have h1 := hP 110 _ (Wf_get (by omega))
    rw [show ce 110 = _ from hB 25 (by omega), ← cm_26] at h1
    exact h1
  · have h1 := hP 111 _ (Wf_get (by omega))
    rw [show ce 111 = _ from hB 26 (by omega), ← cm_27] at h1
    exact h1
theorem s0_z {i : Nat} (h1 : i ≠ 44) (h2 : i ≠ 9) (h3 : ¬ (36 ≤ i ∧ i < 40)) (k : Nat) : σ0 i k = 0 := by
  unfold σ0
  rw [if_neg h1, if_neg h2]
  by_cases c : 36 ≤ i
  · rw [if_pos c, if_neg (by omega)]
  · rw [if_neg c]
theorem t0_z {i : Nat} (h1 : i ≠ 13) (h2 : i ≠ 0) (k : Nat) : τ0 i k = 0 := by
  unfold τ0
  rw [if_neg h1, if_neg h2]
theorem bd0 (n : Nat) : Bd 0 n := ⟨0, by omega, rfl⟩
set_option maxHeartbeats 1000000 in
theorem rel0 : RelE σ0 τ0 := by
  refine ⟨0, 0, 1, 0, 0, 0, ⟨⟨rfl, rfl, by omega⟩, ⟨rfl, rfl, by omega⟩, ⟨rfl, rfl, by omega, by omega⟩, ⟨rfl, rfl, by omega⟩, ⟨rfl, rfl, by omega⟩, ⟨rfl, rfl, by omega⟩⟩, ?_, ?_, ?_, ?_, ?_, ?_, ?_, ?_⟩
  · intro i hi
    simp only [s0_z (show 16 + i ≠ 44 by omega) (show 16 + i ≠ 9 by omega) (show ¬ (36 ≤ 16 + i ∧ 16 + i < 40) by omega), t0_z (show (1 : Nat) ≠ 13 by omega) (show (1 : Nat) ≠ 0 by omega), t0_z (show (2 : Nat) ≠ 13 by omega) (show (2 : Nat) ≠ 0 by omega), t0_z (show (3 : Nat) ≠ 13 by omega) (show (3 : Nat) ≠ 0 by omega), t0_z (show (4 : Nat) ≠ 13 by omega) (show (4 : Nat) ≠ 0 by omega)]
    exact ⟨⟨trivial, trivial, trivial, trivial⟩, bd0 _, bd0 _, bd0 _, bd0 _, fun _ => ⟨trivial, trivial⟩⟩
  · refine ⟨fun i hi => ?_, fun p e h1 h2 h3 => t0_z (by omega) (by omega) _⟩
    rw [s0_z (show 16 + i ≠ 44 by omega) (show 16 + i ≠ 9 by omega) (show ¬ (36 ≤ 16 + i ∧ 16 + i < 40) by omega)]
    simp only [smI]
    rw [t0_z (by omega) (by omega)]
    rfl
  · intro k hk
    rw [s0_z (by omega) (by omega) (by omega), t0_z (by omega) (by omega)]
    exact ⟨rfl, bd0 _⟩
  · intro s hs
    have e : σ0 (36 + s) = fun k => if k = 1 then 1 else 0 := by
      funext k
      unfold σ0
      rw [if_neg (by omega), if_neg (by omega), if_pos (by omega), if_pos (by omega)]
    rw [e]
    refine ⟨Or.inr ⟨rfl, t0_z (by omega) (by omega) _⟩, ?_, 0, by omega, rfl, t0_z (by omega) (by omega) _, fun j hj => by omega⟩
    rw [t0_z (by omega) (by omega)]; rfl
  · intro j hj; omega
  · intro p hp
    have e64 : ∀ k, σ0 (64 + p) k = 0 := fun k => s0_z (by omega) (by omega) (by omega) k
    have tz : ∀ i, i ≠ 13 → i ≠ 0 → ∀ k, τ0 i k = 0 := fun i h1 h2 k => t0_z h1 h2 k
    rw [tz 11 (by omega) (by omega), tz 12 (by omega) (by omega), tz 14 (by omega) (by omega), tz 15 (by omega) (by omega), tz 16 (by omega) (by omega), tz 17 (by omega) (by omega), tz 18 (by omega) (by omega)]
    refine ⟨?_, fun e he => by rw [e64, tz 19 (by omega) (by omega)], bd0 _, bd0 _, ?_, bd0 _, bd0 _, bd0 _⟩
    · by_cases c : p = 0
      · subst c; exact ⟨rfl, rfl, rfl, rfl, rfl, rfl, rfl, rfl⟩
      · have e44 : ∀ k, σ0 (44 + p) k = 0 := fun k => s0_z (by omega) (by omega) (by omega) k
        have e13 : τ0 13 p = 0 := by
          unfold τ0; rw [if_pos rfl]; simp [upd, c]
        simp only [e44, e13]
        exact ⟨trivial, trivial, trivial, trivial, trivial, trivial, trivial, trivial⟩
    · by_cases c : p = 0
      · subst c; exact ⟨200, by omega, rfl⟩
      · have e13 : τ0 13 p = 0 := by
          unfold τ0; rw [if_pos rfl]; simp [upd, c]
        rw [e13]; exact bd0 _
  · intro j hj
    rw [s0_z (by omega) (by omega) (by omega), t0_z (by omega) (by omega)]
  · intro j hj
    rw [s0_z (by omega) (by omega) (by omega), t0_z (by omega) (by omega)]
