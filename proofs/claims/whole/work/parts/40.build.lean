-- ===== worlds that grow: constructors =====
abbrev XB : Type := (Program × Launch × Env × Room × State) × (MethodId × Array Value × List Frame × Method × Code) × va_G × (Nat → ClassId)
/-- own class, code, locals, room -/
abbrev QB : Type := String × ByteArray × Nat × Room
def Wf (n : Nat) (ad : Nat → Nat) (ce : Nat → va_E) : va_W := (List.range n).map (fun i => (ad i, ce i))
theorem Wf_get {n i : Nat} {ad : Nat → Nat} {ce : Nat → va_E} (h : i < n) : (Wf n ad ce)[i]? = some (ad i, ce i) := by simp [Wf, List.getElem?_map, List.getElem?_range h]
theorem Wf_none {n i : Nat} {ad : Nat → Nat} {ce : Nat → va_E} (h : ¬ i < n) : (Wf n ad ce)[i]? = none := by
  rw [List.getElem?_eq_none_iff]; simp [Wf]; omega
theorem Wf_set {n i : Nat} {ad : Nat → Nat} {ce : Nat → va_E} {e : va_E} (h : i < n) : (Wf n ad ce).set i (ad i, e) = Wf n ad (va_up ce i e) := by
  apply List.ext_getElem?
  intro j
  rw [List.getElem?_set]
  by_cases hj : j < n
  · rw [Wf_get hj, Wf_get hj]
    by_cases e2 : i = j
    · subst e2; rw [if_pos rfl, if_pos (by simp [Wf]; exact h)]; simp [va_up]
    · have e3 : ¬ j = i := fun h => e2 h.symm
      rw [if_neg e2]; simp [va_up, e3]
  · rw [Wf_none hj, Wf_none hj]
    by_cases e2 : i = j
    · subst e2; exact absurd h hj
    · rw [if_neg e2]
theorem Wf_congr {n : Nat} {ad ad' : Nat → Nat} {ce ce' : Nat → va_E} (h1 : ∀ i, i < n → ad i = ad' i) (h2 : ∀ i, i < n → ce i = ce' i) : Wf n ad ce = Wf n ad' ce' := by
  apply List.ext_getElem?
  intro j
  by_cases hj : j < n
  · rw [Wf_get hj, Wf_get hj, h1 j hj, h2 j hj]
  · rw [Wf_none hj, Wf_none hj]
theorem Wf_push {n q : Nat} {ad : Nat → Nat} {ce : Nat → va_E} {e : va_E} : Wf n ad ce ++ [(q, e)] = Wf (n + 1) (va_up ad n q) (va_up ce n e) := by
  apply List.ext_getElem?
  intro j
  have hl : (Wf n ad ce).length = n := by simp [Wf]
  by_cases hj : j < n
  · rw [List.getElem?_append_left (by rw [hl]; exact hj), Wf_get hj, Wf_get (by omega)]
    have e3 : ¬ j = n := by omega
    simp [va_up, e3]
  · rw [List.getElem?_append_right (by rw [hl]; omega), hl]
    by_cases e2 : j = n
    · subst e2; rw [Wf_get (by omega)]; simp [va_up]
    · rw [Wf_none (by omega), List.getElem?_eq_none_iff]; simp; omega
theorem up_eq {α : Type} {f : Nat → α} {k : Nat} {v : α} : va_up f k v k = v := by simp [va_up]
theorem up_ne {α : Type} {f : Nat → α} {k j : Nat} {v : α} (h : j ≠ k) : va_up f k v j = f j := by simp [va_up, h]
def AF (N0 : Nat) : Nat → Prop := fun q => N0 ≤ q
def KB (D : va_G) (cy : Nat → ClassId) (U : State) : Prop := va_K D vwCl (tys cy) U ∧ (∀ x ∈ NWL, va_Nw x U) ∧ va_AO "BridgeHouse$Arch" U ∧ va_AO "BridgeHouse$Purse" U ∧ va_AO "BridgeHouse$Sheet" U
theorem KB.warm {D : va_G} {cy : Nat → ClassId} {s U : State} (hW : s.WarmedH U.vm) (h : KB D cy s) : KB D cy U := ⟨va_K.moved hW.alike h.1, fun x hx => nw_warm hW (List.mem_filter.mp hx).2 (h.2.1 x hx), h.2.2.1.moved hW.alike, h.2.2.2.1.moved hW.alike, h.2.2.2.2.moved hW.alike⟩
theorem KB.same {D : va_G} {cy : Nat → ClassId} {s U : State} (hv : U.vm = s.vm) (h : KB D cy s) : KB D cy U := ⟨va_K.moved (by rw [hv]; exact Vm.Alike.refl _) h.1, fun x hx => va_Nw.same (nw_tab (List.mem_filter.mp hx).2) (u := s) (U := U) hv.symm (h.2.1 x hx), h.2.2.1.moved (by rw [hv]; exact Vm.Alike.refl _), h.2.2.2.1.moved (by rw [hv]; exact Vm.Alike.refl _), h.2.2.2.2.moved (by rw [hv]; exact Vm.Alike.refl _)⟩
def CB (E : XB) (q : QB) (N0 : Nat) : Prop :=
  E.1.1.tables.exec = Jvm.exec ∧ E.2.1.2.2.2.2.code = q.2.1 ∧ E.2.1.2.2.2.2.maxLocals = q.2.2.1 ∧ E.1.2.2.2.2.vm.findClass q.1 = some E.2.1.1.cls ∧
  (∀ x ∈ TBL, x.before E.2.1.2.1 E.1.2.2.2.2 = true) ∧ KB E.2.2.1 E.2.2.2 E.1.2.2.2.2 ∧ E.1.2.2.2.1 = q.2.2.2 ∧ N0 ≤ E.1.2.2.2.2.heap.size
def CI (E : XB) : Prop := E.2.1.2.2.2.1.sig.returnType = none ∧ E.2.1.2.2.2.1.locks = false ∧ E.2.1.2.2.2.1.name = "<init>"
def WB (E : XB) (N0 n : Nat) (ad : Nat → Nat) (ce : Nat → va_E) (H : Heap) (locs : List Loc) : Prop := va_P E.2.2.1 vwCl (Wf n ad ce) H ∧ va_D (AF N0) (Wf n ad ce) ∧ va_S (AF N0) E.1.2.2.2.2.heap H locs
def GB (E : XB) (q : QB) (N0 : Nat) (Q : State → Prop) (cells slots n : Nat) (ad : Nat → Nat) (ce : Nat → va_E) (pc : Nat) (lv : List (Nat × Value)) (st : List Value) : Prop :=
  CB E q N0 → ∀ (ls : Array Slot) (H : Heap) (locs : List Loc), lv_has ls q.2.2.1 lv → WB E N0 n ad ce H locs →
    W E.1.1 E.1.2.1 E.1.2.2.1 E.1.2.2.2.1 E.1.2.2.2.2 E.2.1.1 E.2.1.2.1 E.2.1.2.2.1 E.2.1.2.2.2.1 E.2.1.2.2.2.2 H locs cells slots Q (F0 E.2.1.1 pc ls st)
abbrev PoB : Type := (Nat → ClassId) → Nat → (Nat → Nat) → (Nat → va_E) → Prop
def QP (D : va_G) (cy : Nat → ClassId) (N0 : Nat) (Post : PoB) : Array Value → State → Outcome → State → Prop :=
  va_Qv (S := Nat × (Nat → Nat) × (Nat → va_E)) (fun u => Post cy u.1 u.2.1 u.2.2) (fun u t => va_P D vwCl (Wf u.1 u.2.1 u.2.2) t.heap ∧ va_D (AF N0) (Wf u.1 u.2.1 u.2.2)) (AF N0)
def PB (D : va_G) (cy : Nat → ClassId) (N0 n : Nat) (ad : Nat → Nat) (ce : Nat → va_E) (U : State) : Prop := va_P D vwCl (Wf n ad ce) U.heap ∧ va_D (AF N0) (Wf n ad ce) ∧ KB D cy U ∧ N0 ≤ U.heap.size
/-- a constructor's contract -/
def MB (l : Launch) (D : va_G) (cy : Nat → ClassId) (N0 : Nat) (y : MethodName) (q : QB) (n : Nat) (ad : Nat → Nat) (ce : Nat → va_E) (avs : List Value) (Post : PoB) : Prop :=
  Met l y (Cond.code y q.2.1 q.2.2.1 none :: TBL) q.2.2.2 (va_Pc avs (PB D cy N0 n ad ce)) (QP D cy N0 Post) q.2.2.2.cells q.2.2.2.slots (AF N0)
theorem mb_of {l : Launch} {D : va_G} {cy : Nat → ClassId} {N0 : Nat} {y : MethodName} {q : QB} {n : Nat} {ad : Nat → Nat} {ce : Nat → va_E} {avs : List Value} {Post : PoB} (hy : plainName y.cls = true) (hc : y.cls = q.1) (hi : y.name = "<init>") (hn : (lg_sl avs).length ≤ q.2.2.1)
    (h : ∀ E : XB, CI E → E.2.2.2 = cy → GB E q N0 (MQ E.2.1.2.2.1 (QP E.2.2.1 E.2.2.2 N0 Post) E.2.1.2.1 E.1.2.2.2.2 q.2.2.2.cells q.2.2.2.slots (AF N0)) 0 0 n ad ce 0 (lv_args 0 avs) []) : MB l D cy N0 y q n ad ce avs Post := by
  refine Met.ofW (cc := q.2.1) (maxL := q.2.2.1) (ret := none) hy rfl ?_
  intro p e s m args below meth c s₁ B hml hv
  obtain ⟨rfl, hP, hD, hK, hN⟩ := hv
  have hts := atoms_spec (ws := Cond.code y q.2.1 q.2.2.1 none :: TBL) B.pre
  have hown : s.vm.findClass y.cls = some m.cls := findClass_of_methodNamed B.named
  have hin : meth.name = y.name := (name_of_methodNamed B.named B.method).1
  have hl := lv_entry avs (n := q.2.2.1) hn
  rw [lg_entry_eq]
  generalize (lg_sl avs ++ List.replicate (q.2.2.1 - (lg_sl avs).length) Slot.unset).toArray = ls at hl ⊢
  exact h ((p, l, e, (headSpec (Cond.code y q.2.1 q.2.2.1 none :: TBL) q.2.2.2).room, s), (m, avs.toArray, below, meth, c), (D, cy))
    ⟨B.returns, B.notSynchronized, hin.trans hi⟩ rfl ⟨B.exec, B.bytes, hml, by rw [← hc]; exact hown, fun x hx => hts x (List.mem_cons_of_mem _ hx), hK, rfl, hN⟩ ls s.heap [] hl ⟨hP, hD, va_S.rf⟩
section BROWS
variable {E : XB} {q : QB} {N0 : Nat} {Q : State → Prop} {cells slots n : Nat} {ad : Nat → Nat} {ce : Nat → va_E} {pc : Nat} {lv : List (Nat × Value)} {st : List Value}
theorem b_sub {lv' : List (Nat × Value)} (ks : List Nat) (h : lv_pick lv ks = lv') (k : GB E q N0 Q cells slots n ad ce pc lv' st) : GB E q N0 Q cells slots n ad ce pc lv st := fun C ls H locs hl hw => k C ls H locs (lv_sub hl ks h) hw
theorem b_widen {k z : Nat} (h1 : cells ≤ k) (h2 : slots ≤ z) (kk : GB E q N0 Q k z n ad ce pc lv st) : GB E q N0 Q cells slots n ad ce pc lv st := fun C ls H locs hl hw => W.widen h1 h2 (kk C ls H locs hl hw)
theorem b_iconst {z : Int} {v : Int32} (hd : decode q.2.1 pc = .ok (.iconst z, 1)) (hv : Int32.ofInt z = v) (k : GB E q N0 Q cells slots n ad ce (pc + 1) lv (.int v :: st)) : GB E q N0 Q cells slots n ad ce pc lv st := fun C ls H locs hl hw => lv_iconst C.1 C.2.1 hd hv (k C ls H locs hl hw)
theorem b_bipush {z : Int} {v : Int32} (hd : decode q.2.1 pc = .ok (.bipush z, 2)) (hv : (Int8.ofInt z).toInt32 = v) (k : GB E q N0 Q cells slots n ad ce (pc + 2) lv (.int v :: st)) : GB E q N0 Q cells slots n ad ce pc lv st := fun C ls H locs hl hw => lv_bipush C.1 C.2.1 hd hv (k C ls H locs hl hw)
theorem b_sipush {z : Int} {v : Int32} (hd : decode q.2.1 pc = .ok (.sipush z, 3)) (hv : (Int16.ofInt z).toInt32 = v) (k : GB E q N0 Q cells slots n ad ce (pc + 3) lv (.int v :: st)) : GB E q N0 Q cells slots n ad ce pc lv st := fun C ls H locs hl hw => lv_sipush C.1 C.2.1 hd hv (k C ls H locs hl hw)
theorem b_iload_n {j : Fin 4} {i : Nat} {x : Int32} (a : Nat) (hd : decode q.2.1 pc = .ok (.iload_n j, 1)) (hi : (j : Nat) = i) (hk : lv[a]? = some (i, .int x)) (k : GB E q N0 Q cells slots n ad ce (pc + 1) lv (.int x :: st)) : GB E q N0 Q cells slots n ad ce pc lv st := fun C ls H locs hl hw => lv_iload_n C.1 C.2.1 hd hi (lv_at hl a hk) (k C ls H locs hl hw)
theorem b_aload_n {j : Fin 4} {i : Nat} {x : Nat} (a : Nat) (hd : decode q.2.1 pc = .ok (.aload_n j, 1)) (hi : (j : Nat) = i) (hk : lv[a]? = some (i, .ref x)) (k : GB E q N0 Q cells slots n ad ce (pc + 1) lv (.ref x :: st)) : GB E q N0 Q cells slots n ad ce pc lv st := fun C ls H locs hl hw => lv_aload_n C.1 C.2.1 hd hi (lv_at hl a hk) (k C ls H locs hl hw)
theorem b_istore_n {j : Fin 4} {i : Nat} {x : Int32} {lv' : List (Nat × Value)} (hd : decode q.2.1 pc = .ok (.istore_n j, 1)) (hi : (j : Nat) = i) (hn : i < q.2.2.1) (h : (i, Value.int x) :: lv.filter (fun z => !(z.1 == i) && !(z.1 + 1 == i && z.2.category == 2)) = lv') (k : GB E q N0 Q cells slots n ad ce (pc + 1) lv' st) : GB E q N0 Q cells slots n ad ce pc lv (.int x :: st) := fun C ls H locs hl hw => lv_istore_n C.1 C.2.1 hd hi hl hn h (fun ls' hl' => k C ls' H locs hl' hw)
theorem b_astore_n {j : Fin 4} {i : Nat} {x : Nat} {lv' : List (Nat × Value)} (hd : decode q.2.1 pc = .ok (.astore_n j, 1)) (hi : (j : Nat) = i) (hn : i < q.2.2.1) (h : (i, Value.ref x) :: lv.filter (fun z => !(z.1 == i) && !(z.1 + 1 == i && z.2.category == 2)) = lv') (k : GB E q N0 Q cells slots n ad ce (pc + 1) lv' st) : GB E q N0 Q cells slots n ad ce pc lv (.ref x :: st) := fun C ls H locs hl hw => lv_astore_n C.1 C.2.1 hd hi hl hn h (fun ls' hl' => k C ls' H locs hl' hw)
theorem b_iinc {i : Nat} {z : Int} {x v : Int32} {lv' : List (Nat × Value)} (a : Nat) (hd : decode q.2.1 pc = .ok (.iinc i z, 3)) (hk : lv[a]? = some (i, .int x)) (hv : x + Int32.ofInt z = v) (hn : i < q.2.2.1) (h : (i, Value.int v) :: lv.filter (fun z => !(z.1 == i) && !(z.1 + 1 == i && z.2.category == 2)) = lv') (k : GB E q N0 Q cells slots n ad ce (pc + 3) lv' st) : GB E q N0 Q cells slots n ad ce pc lv st := fun C ls H locs hl hw => lv_iinc C.1 C.2.1 hd hl hk hv hn h (fun ls' hl' => k C ls' H locs hl' hw)
theorem b_goto {off : Int} (tgt : Nat) (hd : decode q.2.1 pc = .ok (.goto off, 3)) (ht : (pc : Int) + off = (tgt : Int)) (k : GB E q N0 Q cells slots n ad ce tgt lv st) : GB E q N0 Q cells slots n ad ce pc lv st := fun C ls H locs hl hw => lv_goto C.1 C.2.1 hd ht (k C ls H locs hl hw)
theorem b_dup {v : Value} (hd : decode q.2.1 pc = .ok (.dup, 1)) (hc : v.category = 1) (k : GB E q N0 Q cells slots n ad ce (pc + 1) lv (v :: v :: st)) : GB E q N0 Q cells slots n ad ce pc lv (v :: st) := fun C ls H locs hl hw => lv_dup C.1 C.2.1 hd hc (k C ls H locs hl hw)
theorem b_icmp_ge {x y : Int32} {off : Int} (tgt : Nat) (hd : decode q.2.1 pc = .ok (.if_icmp .ge off, 3)) (ht : (pc : Int) + off = (tgt : Int)) (kt : y ≤ x → GB E q N0 Q cells slots n ad ce tgt lv st) (kf : ¬ y ≤ x → GB E q N0 Q cells slots n ad ce (pc + 3) lv st) : GB E q N0 Q cells slots n ad ce pc lv (.int y :: .int x :: st) := fun C ls H locs hl hw => lv_icmp_ge C.1 C.2.1 hd ht (fun c => kt c C ls H locs hl hw) (fun c => kf c C ls H locs hl hw)
theorem b_obj {idx a : Nat} (h1 : Cond.methodLink q.1 idx Lib.objectInit ∈ TBL) (h2 : Cond.instanceMethod Lib.objectInit ∈ TBL) (h3 : Cond.code Lib.objectInit ⟨#[0xb1]⟩ 1 none ∈ TBL) (hroom : 1 ≤ q.2.2.2.frames ∧ (st.map fun v => v.category).sum + 12 ≤ q.2.2.2.locals) (hd : decode q.2.1 pc = .ok (.invokespecial idx, 3)) (kk : GB E q N0 Q cells slots n ad ce (pc + 3) lv st) : GB E q N0 Q cells slots n ad ce pc lv (.ref a :: st) := by
  intro C ls H locs hl hw
  refine W.objInit C.1 C.2.1 C.2.2.2.1 (C.2.2.2.2.1 _ h1) (C.2.2.2.2.1 _ h2) (C.2.2.2.2.1 _ h3) rfl (by rw [C.2.2.1]; exact hl.1) rfl hd (by rw [C.2.2.2.2.2.2.1]; exact hroom.1) (by rw [C.2.2.2.2.2.2.1]; exact Nat.le_trans (Nat.le_of_eq (by show 2 * 0 + _ + 12 = _; omega)) hroom.2) ?_
  exact W.eq (g2 := F0 E.2.1.1 (pc + 3) ls st) rfl (kk C ls H locs hl hw)
theorem b_new {ci N index : Nat} {Cn : String} {T : u_T} {fs : List Value} (ty : Nat → FieldType) (hin : ∀ x ∈ u_ws Cn T N, x ∈ TBL) (hty : ∀ k, k < N → parseFieldDescriptor (T k).2.2.1 = some (ty k)) (h1 : Cond.classLink q.1 index Cn ∈ TBL) (h2 : Cond.instantiable Cn N ∈ TBL) (h3 : Cond.initialized Cn ∈ TBL) (hc : vwCl[ci]? = some (Cn, T, N)) (hfs : ∀ j, j < N → defaultValue (ty j) = vp_V fs j) (hroom : cells + 1 ≤ q.2.2.2.cells ∧ slots + N ≤ q.2.2.2.slots) (hd : decode q.2.1 pc = .ok (.new index, 3))
    (kk : ∀ (a : Nat) (ad' : Nat → Nat) (ce' : Nat → va_E), ad' n = a → (∀ j, j ≠ n → ad' j = ad j) → ce' n = .inr (ci, fs) → (∀ j, j ≠ n → ce' j = ce j) → GB E q N0 Q (cells + 1) (slots + N) (n + 1) ad' ce' (pc + 3) lv (.ref a :: st)) : GB E q N0 Q cells slots n ad ce pc lv st := by
  intro C ls H locs hl hw
  refine va_new C.1 C.2.1 C.2.2.2.2.1 hin ty hty C.2.2.2.1 (C.2.2.2.2.1 _ h1) (C.2.2.2.2.1 _ h2) (C.2.2.2.2.1 _ h3) C.2.2.2.2.2.1.1 hw.1 hw.2.1 hw.2.2 (fun z hz => Nat.le_trans C.2.2.2.2.2.2.2 hz) hc hfs (by rw [C.2.2.2.2.2.2.1]; exact hroom.1) (by rw [C.2.2.2.2.2.2.1]; exact hroom.2) hd (fun a H1 hP hD hS => ?_)
  rw [Wf_push] at hP hD
  exact kk a _ _ up_eq (fun j hj => up_ne hj) up_eq (fun j hj => up_ne hj) C ls H1 locs hl ⟨hP, hD, hS⟩
theorem ty_app {D : va_G} {cl : List vw_C} {tl : List (ClassId × FieldType)} {x : ClassId × FieldType} {s : State} (h : va_K D cl (tl ++ [x]) s) : ArrOfT s x.1 x.2 ∧ va_RA s x.1 x.2 := h.2 tl.length x (by simp)
theorem b_newi {v : Int32} {N : Nat} (h1 : Cond.arrayClass .int ∈ TBL) (hn : ¬ v < 0) (hN : v.toNatClampNeg = N) (hb : N * 4 ≤ 536870912) (hroom : cells + 1 ≤ q.2.2.2.cells ∧ slots + N ≤ q.2.2.2.slots) (hd : decode q.2.1 pc = .ok (.newarray .int, 2))
    (kk : ∀ (a : Nat) (ad' : Nat → Nat) (ce' : Nat → va_E), ad' n = a → (∀ j, j ≠ n → ad' j = ad j) → ce' n = .inl (E.2.2.2 12, N, .inl (fun _ => 0)) → (∀ j, j ≠ n → ce' j = ce j) → GB E q N0 Q (cells + 1) (slots + N) (n + 1) ad' ce' (pc + 2) lv (.ref a :: st)) : GB E q N0 Q cells slots n ad ce pc lv (.int v :: st) := by
  intro C ls H locs hl hw
  refine va_newa (a0 := (N, .inl (fun _ => 0))) (atype := .int) (ty := .int) C.1 C.2.1 (C.2.2.2.2.1 _ h1) rfl C.2.2.2.2.2.1.1 hw.1 hw.2.1 hw.2.2 (fun z hz => Nat.le_trans C.2.2.2.2.2.2.2 hz) (fun _ => rfl) hn hN hb (by rw [C.2.2.2.2.2.2.1]; exact hroom.1) (by rw [C.2.2.2.2.2.2.1]; exact hroom.2) hd (fun a cA H1 hK hP hD hS => ?_)
  have hc : cA = E.2.2.2 12 := Option.some.inj ((ty_app hK).2.symm.trans (C.2.2.2.2.2.1.1.2 1 _ rfl).2)
  subst hc
  rw [Wf_push] at hP hD
  exact kk a _ _ up_eq (fun j hj => up_ne hj) up_eq (fun j hj => up_ne hj) C ls H1 locs hl ⟨hP, hD, hS⟩
theorem b_newb {v : Int32} {N : Nat} (h1 : Cond.arrayClass .byte ∈ TBL) (hn : ¬ v < 0) (hN : v.toNatClampNeg = N) (hb : N * 1 ≤ 536870912) (hroom : cells + 1 ≤ q.2.2.2.cells ∧ slots + N ≤ q.2.2.2.slots) (hd : decode q.2.1 pc = .ok (.newarray .byte, 2))
    (kk : ∀ (a : Nat) (ad' : Nat → Nat) (ce' : Nat → va_E), ad' n = a → (∀ j, j ≠ n → ad' j = ad j) → ce' n = .inl (E.2.2.2 11, N, .inl (fun _ => 0)) → (∀ j, j ≠ n → ce' j = ce j) → GB E q N0 Q (cells + 1) (slots + N) (n + 1) ad' ce' (pc + 2) lv (.ref a :: st)) : GB E q N0 Q cells slots n ad ce pc lv (.int v :: st) := by
  intro C ls H locs hl hw
  refine va_newa (a0 := (N, .inl (fun _ => 0))) (atype := .byte) (ty := .byte) C.1 C.2.1 (C.2.2.2.2.1 _ h1) rfl C.2.2.2.2.2.1.1 hw.1 hw.2.1 hw.2.2 (fun z hz => Nat.le_trans C.2.2.2.2.2.2.2 hz) (fun _ => rfl) hn hN hb (by rw [C.2.2.2.2.2.2.1]; exact hroom.1) (by rw [C.2.2.2.2.2.2.1]; exact hroom.2) hd (fun a cA H1 hK hP hD hS => ?_)
  have hc : cA = E.2.2.2 11 := Option.some.inj ((ty_app hK).2.symm.trans (C.2.2.2.2.2.1.1.2 0 _ rfl).2)
  subst hc
  rw [Wf_push] at hP hD
  exact kk a _ _ up_eq (fun j hj => up_ne hj) up_eq (fun j hj => up_ne hj) C ls H1 locs hl ⟨hP, hD, hS⟩
theorem b_newz {v : Int32} {N : Nat} (h1 : Cond.arrayClass .boolean ∈ TBL) (hn : ¬ v < 0) (hN : v.toNatClampNeg = N) (hb : N * 1 ≤ 536870912) (hroom : cells + 1 ≤ q.2.2.2.cells ∧ slots + N ≤ q.2.2.2.slots) (hd : decode q.2.1 pc = .ok (.newarray .boolean, 2))
    (kk : ∀ (a : Nat) (ad' : Nat → Nat) (ce' : Nat → va_E), ad' n = a → (∀ j, j ≠ n → ad' j = ad j) → ce' n = .inl (E.2.2.2 13, N, .inl (fun _ => 0)) → (∀ j, j ≠ n → ce' j = ce j) → GB E q N0 Q (cells + 1) (slots + N) (n + 1) ad' ce' (pc + 2) lv (.ref a :: st)) : GB E q N0 Q cells slots n ad ce pc lv (.int v :: st) := by
  intro C ls H locs hl hw
  refine va_newa (a0 := (N, .inl (fun _ => 0))) (atype := .boolean) (ty := .boolean) C.1 C.2.1 (C.2.2.2.2.1 _ h1) rfl C.2.2.2.2.2.1.1 hw.1 hw.2.1 hw.2.2 (fun z hz => Nat.le_trans C.2.2.2.2.2.2.2 hz) (fun _ => rfl) hn hN hb (by rw [C.2.2.2.2.2.2.1]; exact hroom.1) (by rw [C.2.2.2.2.2.2.1]; exact hroom.2) hd (fun a cA H1 hK hP hD hS => ?_)
  have hc : cA = E.2.2.2 13 := Option.some.inj ((ty_app hK).2.symm.trans (C.2.2.2.2.2.1.1.2 2 _ rfl).2)
  subst hc
  rw [Wf_push] at hP hD
  exact kk a _ _ up_eq (fun j hj => up_ne hj) up_eq (fun j hj => up_ne hj) C ls H1 locs hl ⟨hP, hD, hS⟩
abbrev qf (f : Nat → Option Nat) : Sum (Nat → Int32) (Sum (Nat → Int64) (Sum (Nat → UInt32) (Sum (Nat → UInt64) (Nat → Option Nat)))) := .inr (.inr (.inr (.inr f)))
/-- which class an array of references holds -/
def aoC (k : Nat) : String := if k = 14 then "BridgeHouse$Arch" else if k = 15 then "BridgeHouse$Purse" else "BridgeHouse$Sheet"
theorem b_newq {v : Int32} {N k index : Nat} (hk : k = 14 ∨ k = 15 ∨ k = 16) (h1 : Cond.classLink q.1 index (aoC k) ∈ TBL) (hn : ¬ v < 0) (hN : v.toNatClampNeg = N) (hb : N * 4 ≤ 536870912) (hroom : cells + 1 ≤ q.2.2.2.cells ∧ slots + N ≤ q.2.2.2.slots) (hd : decode q.2.1 pc = .ok (.anewarray index, 3))
    (kk : ∀ (a : Nat) (ad' : Nat → Nat) (ce' : Nat → va_E), ad' n = a → (∀ j, j ≠ n → ad' j = ad j) → ce' n = .inl (E.2.2.2 k, N, qf (fun _ => none)) → (∀ j, j ≠ n → ce' j = ce j) → GB E q N0 Q (cells + 1) (slots + N) (n + 1) ad' ce' (pc + 3) lv (.ref a :: st)) : GB E q N0 Q cells slots n ad ce pc lv (.int v :: st) := by
  intro C ls H locs hl hw
  have hao : va_AO (aoC k) E.1.2.2.2.2 := by
    rcases hk with rfl | rfl | rfl
    · exact C.2.2.2.2.2.1.2.2.1
    · exact C.2.2.2.2.2.1.2.2.2.1
    · exact C.2.2.2.2.2.1.2.2.2.2
  refine va_newq (C := aoC k) C.1 C.2.1 C.2.2.2.1 (C.2.2.2.2.1 _ h1) hao C.2.2.2.2.2.1.1 hw.1 hw.2.1 hw.2.2 (fun z hz => Nat.le_trans C.2.2.2.2.2.2.2 hz) hn hN hb (by rw [C.2.2.2.2.2.2.1]; exact hroom.1) (by rw [C.2.2.2.2.2.2.1]; exact hroom.2) hd (fun a cA H1 hK hP hD hS => ?_)
  have hc : cA = E.2.2.2 k := by
    obtain ⟨_, _, -, -, -, g1⟩ := (ty_app hK).2
    rcases hk with rfl | rfl | rfl
    · obtain ⟨_, _, -, -, -, g2⟩ := (C.2.2.2.2.2.1.1.2 3 _ rfl).2
      exact Option.some.inj (g1.symm.trans g2)
    · obtain ⟨_, _, -, -, -, g2⟩ := (C.2.2.2.2.2.1.1.2 4 _ rfl).2
      exact Option.some.inj (g1.symm.trans g2)
    · obtain ⟨_, _, -, -, -, g2⟩ := (C.2.2.2.2.2.1.1.2 5 _ rfl).2
      exact Option.some.inj (g1.symm.trans g2)
  subst hc
  rw [Wf_push] at hP hD
  exact kk a _ _ up_eq (fun j hj => up_ne hj) up_eq (fun j hj => up_ne hj) C ls H1 locs hl ⟨hP, hD, hS⟩
/-- a final field, in a constructor of its class -/
def FfX (own : String) (idx ci k : Nat) (ty : FieldType) : Prop := ∃ (C : String) (T : u_T) (N : Nat) (ty0 : Nat → FieldType), vwCl[ci]? = some (C, T, N) ∧ (∀ x ∈ u_ws C T N, x ∈ TBL) ∧ k < N ∧ (T k).1 = C ∧ Cond.fieldLink own idx C (T k).2.1 (T k).2.2.1 ∈ TBL ∧ (∀ k, k < N → parseFieldDescriptor (T k).2.2.1 = some (ty0 k)) ∧ (∀ a, a < N → ∀ b, b < N → a ≠ b → (T a).2.1 ≠ (T b).2.1) ∧ (T k).2.2.2 = true ∧ parseFieldDescriptor (T k).2.2.1 = some ty ∧ C = own
theorem b_putF {i a ci k idx : Nat} {fs : List Value} {ty : FieldType} {v : Value} (hI : CI E) (hf : FfX q.1 idx ci k ty) (hi : i < n) (ha : ad i = a) (he : ce i = .inr (ci, fs)) (hn : narrow ty v = v) (hfit : fits ty v = true) (hlen : k < fs.length) (hd : decode q.2.1 pc = .ok (.putfield idx, 3))
    (kk : ∀ ce' : Nat → va_E, ce' i = .inr (ci, fs.set k v) → (∀ j, j ≠ i → ce' j = ce j) → GB E q N0 Q cells slots n ad ce' (pc + 3) lv st) : GB E q N0 Q cells slots n ad ce pc lv (v :: .ref a :: st) := by
  intro C ls H locs hl hw
  subst ha
  obtain ⟨Cn, T, N, ty0, hc, hin, hk, ho, h1, hty, hnm, hfin, hpd, hcn⟩ := hf
  refine va_putF C.1 C.2.1 C.2.2.2.2.1 hin ty0 hty hnm C.2.2.2.1 C.2.2.2.2.2.1.1 hw.1 hw.2.1 hw.2.2 i ((Wf_get hi).trans (by rw [he])) hc k hk (C.2.2.2.2.1 _ h1) (fun x hx => by rw [ho] at hx; exact hx) hfin hI.2.2 (ho.trans hcn) hpd hn hfit hlen hd (fun H1 locs1 hP hD hS => ?_)
  rw [Wf_set hi] at hP hD
  exact kk _ up_eq (fun j hj => up_ne hj) C ls H1 locs1 hl ⟨hP, hD, hS⟩
theorem b_put {i a ci k idx : Nat} {fs : List Value} {ty : FieldType} {v : Value} (hf : FpX q.1 idx ci k ty) (hi : i < n) (ha : ad i = a) (he : ce i = .inr (ci, fs)) (hn : narrow ty v = v) (hfit : fits ty v = true) (hlen : k < fs.length) (hd : decode q.2.1 pc = .ok (.putfield idx, 3))
    (kk : ∀ ce' : Nat → va_E, ce' i = .inr (ci, fs.set k v) → (∀ j, j ≠ i → ce' j = ce j) → GB E q N0 Q cells slots n ad ce' (pc + 3) lv st) : GB E q N0 Q cells slots n ad ce pc lv (v :: .ref a :: st) := by
  intro C ls H locs hl hw
  subst ha
  have go : ∀ (H1 : Heap) (locs1 : List Loc), va_P E.2.2.1 vwCl ((Wf n ad ce).set i (ad i, .inr (ci, fs.set k v))) H1 → va_D (AF N0) ((Wf n ad ce).set i (ad i, .inr (ci, fs.set k v))) → va_S (AF N0) E.1.2.2.2.2.heap H1 locs1 → W E.1.1 E.1.2.1 E.1.2.2.1 E.1.2.2.2.1 E.1.2.2.2.2 E.2.1.1 E.2.1.2.1 E.2.1.2.2.1 E.2.1.2.2.2.1 E.2.1.2.2.2.2 H1 locs1 cells slots Q (F0 E.2.1.1 (pc + 3) ls st) := fun H1 locs1 hP hD hS => by
    rw [Wf_set hi] at hP hD
    exact kk _ up_eq (fun j hj => up_ne hj) C ls H1 locs1 hl ⟨hP, hD, hS⟩
  obtain ⟨Cn, T, N, ty0, hc, hin, hk, ho, hlk, hty, hnm, hfin, hpd⟩ := hf
  rcases hlk with h1 | ⟨h, h1⟩
  · exact va_put C.1 C.2.1 C.2.2.2.2.1 hin ty0 hty hnm C.2.2.2.1 C.2.2.2.2.2.1.1 hw.1 hw.2.1 hw.2.2 i ((Wf_get hi).trans (by rw [he])) hc k hk (C.2.2.2.2.1 _ h1) (fun x hx => by rw [ho] at hx; exact hx) hfin hpd hn hfit hlen hd go
  · exact va_putN C.1 C.2.1 C.2.2.2.2.1 hin ty0 hty hnm C.2.2.2.1 C.2.2.2.2.2.1.1 hw.1 hw.2.1 hw.2.2 i ((Wf_get hi).trans (by rw [he])) hc k hk (va_Nw.use rfl (C.2.2.2.2.2.1.2.1 _ h1)) (fun x hx => by rw [ho] at hx; exact hx) hfin hpd hn hfit hlen hd go
theorem b_get {i a ci k idx : Nat} {fs : List Value} {v : Value} (hf : FdX q.1 idx ci k) (hi : i < n) (ha : ad i = a) (he : ce i = .inr (ci, fs)) (hv : fs[k]? = some v) (hd : decode q.2.1 pc = .ok (.getfield idx, 3)) (kk : GB E q N0 Q cells slots n ad ce (pc + 3) lv (v :: st)) : GB E q N0 Q cells slots n ad ce pc lv (.ref a :: st) := by
  intro C ls H locs hl hw
  subst ha
  obtain ⟨Cn, T, N, hc, hin, hk, ho, h1 | ⟨h, h1⟩⟩ := hf
  · exact va_get C.1 C.2.1 C.2.2.2.2.1 hin C.2.2.2.1 C.2.2.2.2.2.1.1 hw.1 i ((Wf_get hi).trans (by rw [he])) hc k hk (C.2.2.2.2.1 _ h1) (fun x hx => by rw [ho] at hx; exact hx) hv hd (kk C ls H locs hl hw)
  · exact va_getN C.1 C.2.1 C.2.2.2.2.1 hin C.2.2.2.1 C.2.2.2.2.2.1.1 hw.1 i ((Wf_get hi).trans (by rw [he])) hc k hk (va_Nw.use rfl (C.2.2.2.2.2.1.2.1 _ h1)) (fun x hx => by rw [ho] at hx; exact hx) hv hd (kk C ls H locs hl hw)
theorem b_aald {i a b k N : Nat} {f : Nat → Option Nat} {j : Int32} (hk : k = 14 ∨ k = 15 ∨ k = 16) (hi : i < n) (ha : ad i = a) (he : ce i = .inl (E.2.2.2 k, N, qf f)) (hj : vp_in j N) (hf : f j.toNatClampNeg = some b) (hd : decode q.2.1 pc = .ok (.aaload, 1)) (kk : GB E q N0 Q cells slots n ad ce (pc + 1) lv (.ref b :: st)) : GB E q N0 Q cells slots n ad ce pc lv (.int j :: .ref a :: st) := by
  intro C ls H locs hl hw
  subst ha
  have hh : W E.1.1 E.1.2.1 E.1.2.2.1 E.1.2.2.2.1 E.1.2.2.2.2 E.2.1.1 E.2.1.2.1 E.2.1.2.2.1 E.2.1.2.2.2.1 E.2.1.2.2.2.2 H locs cells slots Q (F0 E.2.1.1 (pc + 1) ls (va_rf (f j.toNatClampNeg) :: st)) := by rw [hf]; exact kk C ls H locs hl hw
  rcases hk with rfl | rfl | rfl
  · exact va_aldq (C := "BridgeHouse$Arch") C.1 C.2.1 C.2.2.2.2.2.1.1 hw.1 i 3 ((Wf_get hi).trans (by rw [he])) rfl hj hd hh
  · exact va_aldq (C := "BridgeHouse$Purse") C.1 C.2.1 C.2.2.2.2.2.1.1 hw.1 i 4 ((Wf_get hi).trans (by rw [he])) rfl hj hd hh
  · exact va_aldq (C := "BridgeHouse$Sheet") C.1 C.2.1 C.2.2.2.2.2.1.1 hw.1 i 5 ((Wf_get hi).trans (by rw [he])) rfl hj hd hh
theorem b_aast {i z a b k ci N : Nat} {f : Nat → Option Nat} {j : Int32} {vs : List Value} (hk : (k = 14 ∧ ci = 0) ∨ (k = 15 ∧ ci = 5) ∨ (k = 16 ∧ ci = 7)) (hi : i < n) (ha : ad i = a) (he : ce i = .inl (E.2.2.2 k, N, qf f)) (hz : z < n) (hb : ad z = b) (hv : ce z = .inr (ci, vs)) (hj : vp_in j N) (hd : decode q.2.1 pc = .ok (.aastore, 1))
    (kk : ∀ ce' : Nat → va_E, ce' i = .inl (E.2.2.2 k, N, qf (va_up f j.toNatClampNeg (some b))) → (∀ x, x ≠ i → ce' x = ce x) → GB E q N0 Q cells slots n ad ce' (pc + 1) lv st) : GB E q N0 Q cells slots n ad ce pc lv (.ref b :: .int j :: .ref a :: st) := by
  intro C ls H locs hl hw
  subst ha; subst hb
  have go : ∀ (H1 : Heap) (locs1 : List Loc), va_P E.2.2.1 vwCl ((Wf n ad ce).set i (ad i, .inl (E.2.2.2 k, N, .inr (.inr (.inr (.inr (va_up f j.toNatClampNeg (some (ad z))))))))) H1 → va_D (AF N0) ((Wf n ad ce).set i (ad i, .inl (E.2.2.2 k, N, .inr (.inr (.inr (.inr (va_up f j.toNatClampNeg (some (ad z))))))))) → va_S (AF N0) E.1.2.2.2.2.heap H1 locs1 → W E.1.1 E.1.2.1 E.1.2.2.1 E.1.2.2.2.1 E.1.2.2.2.2 E.2.1.1 E.2.1.2.1 E.2.1.2.2.1 E.2.1.2.2.2.1 E.2.1.2.2.2.2 H1 locs1 cells slots Q (F0 E.2.1.1 (pc + 1) ls st) := fun H1 locs1 hP hD hS => by
    rw [Wf_set hi] at hP hD
    exact kk _ up_eq (fun j hj => up_ne hj) C ls H1 locs1 hl ⟨hP, hD, hS⟩
  rcases hk with ⟨rfl, rfl⟩ | ⟨rfl, rfl⟩ | ⟨rfl, rfl⟩
  · exact va_astq (r := (RX0, TX0, 6)) C.1 C.2.1 C.2.2.2.2.2.1.1 hw.1 hw.2.1 hw.2.2 i 3 z 0 ((Wf_get hi).trans (by rw [he])) rfl ((Wf_get hz).trans (by rw [hv])) rfl hj hd go
  · exact va_astq (r := (RX5, TX5, 9)) C.1 C.2.1 C.2.2.2.2.2.1.1 hw.1 hw.2.1 hw.2.2 i 4 z 5 ((Wf_get hi).trans (by rw [he])) rfl ((Wf_get hz).trans (by rw [hv])) rfl hj hd go
  · exact va_astq (r := (RX7, TX7, 4)) C.1 C.2.1 C.2.2.2.2.2.1.1 hw.1 hw.2.1 hw.2.2 i 5 z 7 ((Wf_get hi).trans (by rw [he])) rfl ((Wf_get hz).trans (by rw [hv])) rfl hj hd go
theorem b_iast {i a N : Nat} {f : Nat → Int32} {j x : Int32} (hi : i < n) (ha : ad i = a) (he : ce i = .inl (E.2.2.2 12, N, .inl f)) (hj : vp_in j N) (hd : decode q.2.1 pc = .ok (.iastore, 1))
    (kk : ∀ ce' : Nat → va_E, ce' i = .inl (E.2.2.2 12, N, .inl (upd f j.toNatClampNeg x)) → (∀ x, x ≠ i → ce' x = ce x) → GB E q N0 Q cells slots n ad ce' (pc + 1) lv st) : GB E q N0 Q cells slots n ad ce pc lv (.int x :: .int j :: .ref a :: st) := by
  intro C ls H locs hl hw
  subst ha
  exact va_iast C.1 C.2.1 C.2.2.2.2.2.1.1 hw.1 hw.2.1 hw.2.2 i 1 ((Wf_get hi).trans (by rw [he])) rfl hj hd (fun H1 locs1 hP hD hS => by
    rw [Wf_set hi] at hP hD
    exact kk _ up_eq (fun j hj => up_ne hj) C ls H1 locs1 hl ⟨hP, hD, hS⟩)
theorem b_vret {Post : PoB} {mc ms : Nat} (hI : CI E) (hp : Post E.2.2.2 n ad ce) (hmc : cells ≤ mc) (hms : slots ≤ ms) (hd : decode q.2.1 pc = .ok (.return_, 1)) : GB E q N0 (MQ E.2.1.2.2.1 (QP E.2.2.1 E.2.2.2 N0 Post) E.2.1.2.1 E.1.2.2.2.2 mc ms (AF N0)) cells slots n ad ce pc lv [] := by
  intro C ls H locs hl hw
  refine W.widen hmc hms ?_
  exact W.vret C.1 C.2.1 hI.1 (fun t ht hW => ⟨⟨(n, ad, ce), rfl, hp, by rw [ht]; exact hw.1, hw.2.1⟩, hw.2.2.F ht⟩) hw.2.2.2.2 hd hI.2.1
def LkI (own : String) (idx : Nat) (y : MethodName) (q' : QB) (n : Nat) : Prop := (Cond.methodLink own idx y ∈ TBL ∨ ∃ h, Cond.methodLinkNest own idx y h ∈ NWL) ∧ Cond.initialized y.cls ∈ TBL ∧ Cond.code y q'.2.1 q'.2.2.1 none ∈ TBL ∧ (y.cls ≠ "java/lang/invoke/MethodHandle" ∧ y.cls ≠ "java/lang/invoke/VarHandle" ∧ (parseMethodDescriptor y.desc).map (fun d => d.parameters.length) = some n) ∧ Cond.instanceMethod y ∈ TBL ∧ y.name = "<init>"
theorem pb_blind {D : va_G} {cy : Nat → ClassId} {N0 n : Nat} {ad : Nat → Nat} {ce : Nat → va_E} {avs : List Value} : FrameBlind (va_Pc avs (PB D cy N0 n ad ce)) := by
  intro a U g mk h
  obtain ⟨h1, hP, hD, hK, hN⟩ := h
  exact ⟨h1, hP, hD, KB.same (s := U) (U := U.calling g mk a) rfl hK, hN⟩
/-- a constructor is called -/
theorem b_init {idx na b : Nat} {y : MethodName} {q' : QB} {As rest stk : List Value} {Post : PoB} (hL : LkI q.1 idx y q' na) (hM : MB E.1.2.1 E.2.2.1 E.2.2.2 N0 y q' n ad ce (.ref b :: As) Post) (hroom : q'.2.2.2.frames + 1 ≤ q.2.2.2.frames ∧ 8 + (q'.2.2.1 + 11) + q'.2.2.2.locals ≤ q.2.2.2.locals) (hcs : cells + q'.2.2.2.cells ≤ q.2.2.2.cells ∧ slots + q'.2.2.2.slots ≤ q.2.2.2.slots) (hn : As.length = na) (hs : stk = As.reverse ++ .ref b :: rest) (hcat : (rest.map fun v => v.category).sum ≤ 8) (hd : decode q.2.1 pc = .ok (.invokespecial idx, 3))
    (kk : ∀ (n' : Nat) (ad' : Nat → Nat) (ce' : Nat → va_E), Post E.2.2.2 n' ad' ce' → GB E q N0 Q (cells + q'.2.2.2.cells) (slots + q'.2.2.2.slots) n' ad' ce' (pc + 3) lv rest) : GB E q N0 Q cells slots n ad ce pc lv stk := by
  intro C ls H locs hl hw
  obtain ⟨hlk, hini, hcode, hdd, hinst, hname⟩ := hL
  have ht := C.2.2.2.2.1
  have hR := C.2.2.2.2.2.2.1
  have hp : PreS E.1.2.2.2.2 H (va_Pc (.ref b :: As) (PB E.2.2.1 E.2.2.2 N0 n ad ce)) (.ref b :: As) := ⟨pb_blind, fun U hU hW => ⟨rfl, by rw [hU]; exact hw.1, hw.2.1, C.2.2.2.2.2.1.warm hW, by rw [hU]; exact Nat.le_trans C.2.2.2.2.2.2.2 hw.2.2.1⟩⟩
  have hrun : va_Run E.1.1 E.1.2.1 E.1.2.2.1 E.1.2.2.2.1 E.1.2.2.2.2 E.2.1.1 E.2.1.2.1 E.2.1.2.2.1 E.2.1.2.2.2.1 E.2.1.2.2.2.2 H locs cells slots q'.2.2.2.cells q'.2.2.2.slots (F0 E.2.1.1 pc ls stk) rest (QP E.2.2.1 E.2.2.2 N0 Post (Value.ref b :: As).toArray) (AF N0) := by
    rcases hlk with h1 | ⟨h, h1⟩
    · exact va_runI ⟨C.1, C.2.1, C.2.2.1, C.2.2.2.1, ht⟩ hM ⟨callB_of na ht (gIn0 hcode) rfl rfl rfl (ht _ hini) (ht _ h1) hdd ⟨by rw [hR]; exact hroom.1, by rw [hR]; exact hroom.2⟩, hname, ht _ hinst⟩ hp rfl hn hl.1 hs (lv_room hcat) hd ⟨by rw [hR]; exact hcs.1, by rw [hR]; exact hcs.2⟩
    · exact va_runIN ⟨C.1, C.2.1, C.2.2.1, C.2.2.2.1, ht⟩ hM ⟨va_cnB na ht (gIn0 hcode) rfl rfl rfl (C.2.2.2.2.2.1.2.1 _ h1) (ht _ hini) hdd ⟨by rw [hR]; exact hroom.1, by rw [hR]; exact hroom.2⟩, hname, ht _ hinst⟩ hp rfl hn hl.1 hs (lv_room hcat) hd ⟨by rw [hR]; exact hcs.1, by rw [hR]; exact hcs.2⟩
  refine va_callv hrun hw.2.2 (fun _ _ h => h) (fun _ h => h) (fun u t H1 locs1 htt hvm hpost hB hz hk hS => ?_)
  exact kk u.1 u.2.1 u.2.2 hpost C ls H1 locs1 hl ⟨by rw [← htt]; exact hB.1, hB.2, hS⟩
end BROWS
