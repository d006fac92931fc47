abbrev Mem : Type := Nat → Nat → Int32
/-- a layout: how many objects, the kind of each, its length, what its references are -/
abbrev Lay : Type := Nat × (Nat → Nat) × (Nat → Nat) × (Nat → Nat → Nat)
/-- what a start fixes: slots, array kinds, addresses, the texts' addresses and their byte rows' -/
abbrev SD : Type := va_G × (Nat → ClassId) × (Nat → Nat) × (Nat → Nat) × (Nat → Nat)
/-- a method: its owner, code, locals, result, and the room that it needs (frames, words) -/
abbrev MD : Type := String × ByteArray × Nat × Option FieldType × Nat × Nat
abbrev XE : Type := (Program × Launch × Env × Room × State) × (MethodId × Array Value × List Frame × Method × Code) × SD
abbrev xa (E : XE) (i : Nat) : Nat := E.2.2.2.2.1 i
abbrev xs (E : XE) (i : Nat) : Nat := E.2.2.2.2.2.1 i
abbrev xv (E : XE) (i : Nat) : Nat := E.2.2.2.2.2.2 i
def mset (σ : Mem) (i k : Nat) (v : Int32) : Mem := va_up σ i (upd (σ i) k v)
theorem mset_ne {σ : Mem} {i j k : Nat} {v : Int32} (h : j ≠ i) : mset σ i k v j = σ j := by simp [mset, va_up, h]
theorem mset_eq {σ : Mem} {i k : Nat} {v : Int32} : mset σ i k v i = upd (σ i) k v := by simp [mset, va_up]
def TBL : List Cond := lw_tbl.filter goodWord
def isNest : Cond → Bool
  | .fieldLinkNest _ _ _ _ _ _ => true
  | .methodLinkNest _ _ _ _ => true
  | _ => false
def NWL : List Cond := lw_tbl.filter isNest
theorem mT {x : Cond} (h : x ∈ lw_tbl) (g : goodWord x = true) : x ∈ TBL := List.mem_filter.mpr ⟨h, g⟩
theorem mN {x : Cond} (h : x ∈ lw_tbl) (g : isNest x = true) : x ∈ NWL := List.mem_filter.mpr ⟨h, g⟩
theorem mTi {x : Cond} (i : Nat) (h : lw_tbl[i]? = some x) (g : goodWord x = true) : x ∈ TBL := mT (List.mem_of_getElem? h) g
theorem mNi {x : Cond} (i : Nat) (h : lw_tbl[i]? = some x) (g : isNest x = true) : x ∈ NWL := mN (List.mem_of_getElem? h) g
theorem nw_tab {x : Cond} (h : isNest x = true) : x.onTables = true := by
  cases x <;> first | rfl | (cases h)
theorem nw_warm {s U : State} (hW : s.WarmedH U.vm) {x : Cond} (h : isNest x = true) (hZ : va_Nw x s) : va_Nw x U := by
  cases x <;> first | exact va_Nw.warmF hW hZ | exact va_Nw.warmM hW hZ | (cases h)
theorem gIn {y' : MethodName} {b' : ByteArray} {n' : Nat} {r' : Option FieldType} {y : MethodName} {b : ByteArray} {n : Nat} {r : Option FieldType} (h : Cond.code y b n r ∈ TBL) : GoodIn (Cond.code y' b' n' r' :: TBL) (Cond.code y b n r :: TBL) := by
  intro x hx
  rcases List.mem_cons.mp hx with rfl | hx
  · exact ⟨List.mem_cons_of_mem _ h, good_of_word (List.mem_filter.mp h).2⟩
  · exact ⟨List.mem_cons_of_mem _ hx, good_of_word (List.mem_filter.mp hx).2⟩
theorem gIn0 {y : MethodName} {b : ByteArray} {n : Nat} {r : Option FieldType} (h : Cond.code y b n r ∈ TBL) : GoodIn TBL (Cond.code y b n r :: TBL) := by
  intro x hx
  rcases List.mem_cons.mp hx with rfl | hx
  · exact ⟨h, good_of_word (List.mem_filter.mp h).2⟩
  · exact ⟨hx, good_of_word (List.mem_filter.mp hx).2⟩
def nfd (c : Nat) : Nat := ([6, 3, 2, 2, 8, 9, 1, 4, 2, 10, 41] : List Nat).getD c 0
def rfT : List (List Bool) := [[false, false, false, false, false, false], [true, false, false], [true, false], [true, false], [true, false, false, false, false, false, false, false], [true, false, false, false, false, false, false, false, false], [true], [true, false, false, false], [true, false], [true, true, true, true, true, true, true, true, true, false], [false, false, true, true, true, true, true, true, true, true, true, true, false, false, true, true, true, true, true, true, true, true, true, true, false, false, true, true, true, true, true, true, false, false, false, false, false, false, false, false, true]]
def isRf (c k : Nat) : Bool := (rfT.getD c []).getD k false
/-- the fields of an object -/
def flds (ad : Nat → Nat) (Λ : Lay) (σ : Mem) (i : Nat) : List Value := (List.range (nfd (Λ.2.1 i))).map (fun k => if isRf (Λ.2.1 i) k = true then Value.ref (ad (Λ.2.2.2 i k)) else .int (σ i k))
/-- the cell of object i -/
def cel (cy : Nat → ClassId) (ad : Nat → Nat) (Λ : Lay) (σ : Mem) (i : Nat) : va_E :=
  if Λ.2.1 i < 11 then .inr (Λ.2.1 i, flds ad Λ σ i)
  else if Λ.2.1 i < 14 then .inl (cy (Λ.2.1 i), (Λ.2.2.1 i, .inl (σ i)))
  else .inl (cy (Λ.2.1 i), (Λ.2.2.1 i, .inr (.inr (.inr (.inr (fun k => some (ad (Λ.2.2.2 i k))))))))
def wl (d : SD) (Λ : Lay) (σ : Mem) : va_W := (List.range Λ.1).map (fun i => (d.2.2.1 i, cel d.2.1 d.2.2.1 Λ σ i))
def tys (cy : Nat → ClassId) : List (ClassId × FieldType) := [(cy 11, .byte), (cy 12, .int), (cy 13, .boolean), (cy 14, .object "BridgeHouse$Arch"), (cy 15, .object "BridgeHouse$Purse"), (cy 16, .object "BridgeHouse$Sheet")]
def AA (d : SD) (Λ : Lay) : Nat → Prop := fun q => ∃ i, i < Λ.1 ∧ q = d.2.2.1 i
def Inj (d : SD) (Λ : Lay) : Prop := ∀ i j, i < Λ.1 → j < Λ.1 → d.2.2.1 i = d.2.2.1 j → i = j
theorem wl_get {d : SD} {Λ : Lay} {σ : Mem} {i : Nat} (h : i < Λ.1) : (wl d Λ σ)[i]? = some (d.2.2.1 i, cel d.2.1 d.2.2.1 Λ σ i) := by
  simp [wl, List.getElem?_map, List.getElem?_range h]
theorem wl_none {d : SD} {Λ : Lay} {σ : Mem} {i : Nat} (h : ¬ i < Λ.1) : (wl d Λ σ)[i]? = none := by
  rw [List.getElem?_eq_none_iff]
  simp [wl]; omega
theorem cel_obj {cy : Nat → ClassId} {ad : Nat → Nat} {Λ : Lay} {σ : Mem} {i c : Nat} (h : Λ.2.1 i = c) (hc : c < 11) : cel cy ad Λ σ i = .inr (c, flds ad Λ σ i) := by
  subst h; simp [cel, hc]
theorem cel_int {cy : Nat → ClassId} {ad : Nat → Nat} {Λ : Lay} {σ : Mem} {i c : Nat} (h : Λ.2.1 i = c) (h1 : 11 ≤ c) (h2 : c < 14) : cel cy ad Λ σ i = .inl (cy c, (Λ.2.2.1 i, .inl (σ i))) := by
  subst h; unfold cel; rw [if_neg (by omega), if_pos h2]
theorem cel_ref {cy : Nat → ClassId} {ad : Nat → Nat} {Λ : Lay} {σ : Mem} {i c : Nat} (h : Λ.2.1 i = c) (h1 : 14 ≤ c) : cel cy ad Λ σ i = .inl (cy c, (Λ.2.2.1 i, .inr (.inr (.inr (.inr (fun k => some (ad (Λ.2.2.2 i k)))))))) := by
  subst h; unfold cel; rw [if_neg (by omega), if_neg (by omega)]
theorem cel_congr {cy : Nat → ClassId} {ad : Nat → Nat} {Λ : Lay} {σ σ' : Mem} {i : Nat} (h : σ i = σ' i) : cel cy ad Λ σ i = cel cy ad Λ σ' i := by
  unfold cel flds; rw [h]
theorem flds_int {ad : Nat → Nat} {Λ : Lay} {σ : Mem} {i c k : Nat} (h : Λ.2.1 i = c) (hk : k < nfd c) (hr : isRf c k = false) : (flds ad Λ σ i)[k]? = some (.int (σ i k)) := by
  subst h; simp [flds, List.getElem?_map, List.getElem?_range hk, hr]
theorem flds_ref {ad : Nat → Nat} {Λ : Lay} {σ : Mem} {i c k : Nat} (h : Λ.2.1 i = c) (hk : k < nfd c) (hr : isRf c k = true) : (flds ad Λ σ i)[k]? = some (.ref (ad (Λ.2.2.2 i k))) := by
  subst h; simp [flds, List.getElem?_map, List.getElem?_range hk, hr]
theorem flds_len {ad : Nat → Nat} {Λ : Lay} {σ : Mem} {i c : Nat} (h : Λ.2.1 i = c) : (flds ad Λ σ i).length = nfd c := by
  subst h; simp [flds]
theorem flds_set {ad : Nat → Nat} {Λ : Lay} {σ : Mem} {i c k : Nat} {v : Int32} (h : Λ.2.1 i = c) (hr : isRf c k = false) : (flds ad Λ σ i).set k (.int v) = flds ad Λ (mset σ i k v) i := by
  subst h
  apply List.ext_getElem?
  intro j
  rw [List.getElem?_set]
  by_cases hj : j < nfd (Λ.2.1 i)
  · by_cases e : k = j
    · subst e
      simp [flds, hj, hr, mset_eq, upd]
    · have e' : ¬ j = k := fun h => e h.symm
      simp [flds, hj, e, e', mset_eq, upd]
  · have h2 : (flds ad Λ (mset σ i k v) i)[j]? = none := by rw [List.getElem?_eq_none_iff, flds_len rfl]; omega
    have h3 : (flds ad Λ σ i)[j]? = none := by rw [List.getElem?_eq_none_iff, flds_len rfl]; omega
    rw [h2, h3]
    by_cases e : k = j
    · subst e; rw [if_pos rfl, if_neg (by rw [flds_len rfl]; exact hj)]
    · rw [if_neg e]
theorem wl_set {d : SD} {Λ : Lay} {σ : Mem} {i k : Nat} {v : Int32} {e : va_E} (h : i < Λ.1) (he : e = cel d.2.1 d.2.2.1 Λ (mset σ i k v) i) : (wl d Λ σ).set i (d.2.2.1 i, e) = wl d Λ (mset σ i k v) := by
  apply List.ext_getElem?
  intro j
  rw [List.getElem?_set]
  by_cases hj : j < Λ.1
  · rw [wl_get hj, wl_get hj]
    by_cases e2 : i = j
    · subst e2
      rw [if_pos rfl, if_pos (by simp [wl]; exact h), he]
    · rw [if_neg e2, cel_congr (mset_ne (fun h => e2 h.symm))]
  · rw [wl_none hj, wl_none hj]
    by_cases e2 : i = j
    · subst e2; exact absurd h hj
    · rw [if_neg e2]
/-- the same for a whole row -/
theorem wl_row {d : SD} {Λ : Lay} {σ : Mem} {i : Nat} {f : Nat → Int32} {e : va_E} (h : i < Λ.1) (he : e = cel d.2.1 d.2.2.1 Λ (va_up σ i f) i) : (wl d Λ σ).set i (d.2.2.1 i, e) = wl d Λ (va_up σ i f) := by
  apply List.ext_getElem?
  intro j
  rw [List.getElem?_set]
  by_cases hj : j < Λ.1
  · rw [wl_get hj, wl_get hj]
    by_cases e2 : i = j
    · subst e2
      rw [if_pos rfl, if_pos (by simp [wl]; exact h), he]
    · have e4 : ¬ j = i := fun h => e2 h.symm
      have e3 : va_up σ i f j = σ j := by simp [va_up, e4]
      rw [if_neg e2, cel_congr e3]
  · rw [wl_none hj, wl_none hj]
    by_cases e2 : i = j
    · subst e2; exact absurd h hj
    · rw [if_neg e2]
theorem wl_D {d : SD} {Λ : Lay} {σ : Mem} (h : Inj d Λ) : va_D (AA d Λ) (wl d Λ σ) := by
  refine ⟨fun i j p q hp hq e => ?_, fun k q hq => ?_⟩
  · by_cases hi : i < Λ.1
    · by_cases hj : j < Λ.1
      · rw [wl_get hi] at hp; rw [wl_get hj] at hq
        cases hp; cases hq
        exact h i j hi hj e
      · rw [wl_none hj] at hq; cases hq
    · rw [wl_none hi] at hp; cases hp
  · by_cases hk : k < Λ.1
    · rw [wl_get hk] at hq; cases hq; exact ⟨k, hk, rfl⟩
    · rw [wl_none hk] at hq; cases hq
-- texts
def nJS : Nat := 9
def idJS : List Nat := [33, 54, 59, 61, 63, 65, 73, 74, 75]
def txJS : List String := ["for", "arch", "all", "works", "poor", "chapel", "from", "till", "yearly"]
def lenJS : List Nat := [3, 4, 3, 5, 4, 6, 4, 4, 6]
def bytJS : List (List Int32) := [[102, 111, 114], [97, 114, 99, 104], [97, 108, 108], [119, 111, 114, 107, 115], [112, 111, 111, 114], [99, 104, 97, 112, 101, 108], [102, 114, 111, 109], [116, 105, 108, 108], [121, 101, 97, 114, 108, 121]]
def ownJS : String := "BridgeHouse$GiftText"
def Ext (d : SD) (Λ : Lay) (U : State) (H : Heap) : Prop := vk_S nJS lenJS bytJS d.2.2.2.1 d.2.2.2.2 (AA d Λ) U H ∧ (∀ i, i < nJS → vk_R ownJS (idJS.getD i 0) (txJS.getD i "") (d.2.2.2.1 i) U) ∧ va_Z "java/lang/String" "COMPACT_STRINGS" "Z" (.int 1) (AA d Λ) U H ∧ va_Zq "jdk/internal/util/Preconditions" "SIOOBE_FORMATTER" "Ljava/util/function/BiFunction;" (AA d Λ) U H
theorem va_Zq.kept2 {C n d : String} {A : Nat → Prop} {U : State} {H H1 : Heap} (h : va_Zq C n d A U H) (hq : ∀ a : Nat, a < H.size → ¬ A a → H1[a]? = H[a]?) : va_Zq C n d A U H1 := by
  rcases h with h | ⟨t, h⟩
  · exact Or.inl (h.kept hq)
  · exact Or.inr ⟨t, h.kept hq⟩
theorem va_Zq.moved2 {C n d : String} {A : Nat → Prop} {u U : State} {H : Heap} (hvm : u.vm.Alike U.vm) (h : va_Zq C n d A u H) : va_Zq C n d A U H := by
  rcases h with h | ⟨t, h⟩
  · exact Or.inl (h.moved hvm)
  · exact Or.inr ⟨t, h.moved hvm⟩
theorem Ext.warm {d : SD} {Λ : Lay} {s U : State} {H H1 : Heap} (h : Ext d Λ s H) (hW : s.WarmedH U.vm) (hq : ∀ a : Nat, a < H.size → ¬ AA d Λ a → H1[a]? = H[a]?) : Ext d Λ U H1 :=
  ⟨(h.1.kept hq).moved hW.alike, fun i hi => (h.2.1 i hi).warm hW, (h.2.2.1.kept hq).moved hW.alike, (h.2.2.2.kept2 hq).moved2 hW.alike⟩
theorem Ext.same {d : SD} {Λ : Lay} {s U : State} {H : Heap} (h : Ext d Λ s H) (hv : U.vm = s.vm) : Ext d Λ U H :=
  ⟨h.1.moved (by rw [hv]; exact Vm.Alike.refl _), fun i hi => (h.2.1 i hi).same hv, h.2.2.1.moved (by rw [hv]; exact Vm.Alike.refl _), h.2.2.2.moved2 (by rw [hv]; exact Vm.Alike.refl _)⟩
def rmd (q : MD) : Room := { frames := q.2.2.2.2.1, cells := 0, slots := 0, locals := q.2.2.2.2.2 }
def Cx (E : XE) (Λ : Lay) (q : MD) : Prop :=
  E.1.1.tables.exec = Jvm.exec ∧ E.2.1.2.2.2.2.code = q.2.1 ∧ E.2.1.2.2.2.1.sig.returnType = q.2.2.2.1 ∧ E.2.1.2.2.2.2.maxLocals = q.2.2.1 ∧ E.1.2.2.2.2.vm.findClass q.1 = some E.2.1.1.cls ∧
  (∀ x ∈ TBL, x.before E.2.1.2.1 E.1.2.2.2.2 = true) ∧ va_K E.2.2.1 vwCl (tys E.2.2.2.1) E.1.2.2.2.2 ∧ E.2.1.2.2.2.1.locks = false ∧ E.1.2.2.2.1 = rmd q ∧ (∀ x ∈ NWL, va_Nw x E.1.2.2.2.2) ∧ Inj E.2.2 Λ ∧ Ext E.2.2 Λ E.1.2.2.2.2 E.1.2.2.2.2.heap
def Wd (E : XE) (Λ : Lay) (σ : Mem) (H : Heap) (locs : List Loc) : Prop := va_P E.2.2.1 vwCl (wl E.2.2 Λ σ) H ∧ va_S (AA E.2.2 Λ) E.1.2.2.2.2.heap H locs
def QR (d : SD) (Λ : Lay) (res : Option Int32 × Mem) : Array Value → State → Outcome → State → Prop := fun _ st oc t => (oc = .returned (res.1.map Value.int) ∧ va_P d.1 vwCl (wl d Λ res.2) t.heap) ∧ va_F (AA d Λ) st t
def PW (d : SD) (Λ : Lay) (σ : Mem) (U : State) : Prop := va_P d.1 vwCl (wl d Λ σ) U.heap ∧ va_K d.1 vwCl (tys d.2.1) U ∧ (∀ x ∈ NWL, va_Nw x U) ∧ Inj d Λ ∧ Ext d Λ U U.heap
def G (E : XE) (Λ : Lay) (q : MD) (σ : Mem) (pc : Nat) (lv : List (Nat × Value)) (st : List Value) (res : Option Int32 × Mem) : Prop :=
  Cx E Λ q → ∀ (ls : Array Slot) (H : Heap) (locs : List Loc), lv_has ls q.2.2.1 lv → Wd E Λ σ H locs →
    W E.1.1 E.1.2.1 E.1.2.2.1 E.1.2.2.2.1 E.1.2.2.2.2 E.2.1.1 E.2.1.2.1 E.2.1.2.2.1 E.2.1.2.2.2.1 E.2.1.2.2.2.2 H locs 0 0 (MQ E.2.1.2.2.1 (QR E.2.2 Λ res) E.2.1.2.1 E.1.2.2.2.2 0 0 (AA E.2.2 Λ)) (F0 E.2.1.1 pc ls st)
/-- a method's contract over the memory -/
def Me (l : Launch) (d : SD) (Λ : Lay) (y : MethodName) (q : MD) (σ : Mem) (avs : List Value) (res : Option Int32 × Mem) : Prop :=
  Met l y (Cond.code y q.2.1 q.2.2.1 q.2.2.2.1 :: TBL) (rmd q) (va_Pc avs (PW d Λ σ)) (QR d Λ res) 0 0 (AA d Λ)
theorem me_of {l : Launch} {d : SD} {Λ : Lay} {y : MethodName} {q : MD} {σ : Mem} {avs : SD → List Value} {res : Option Int32 × Mem} (hy : plainName y.cls = true) (hc : y.cls = q.1) (hn : (lg_sl (avs d)).length ≤ q.2.2.1)
    (h : ∀ E : XE, G E Λ q σ 0 (lv_args 0 (avs E.2.2)) [] res) : Me l d Λ y q σ (avs d) res := by
  refine Met.ofW (cc := q.2.1) (maxL := q.2.2.1) (ret := q.2.2.2.1) hy rfl ?_
  intro p e s m args below meth c s₁ B hml hv
  obtain ⟨rfl, hP, hK, hNw, hI, hX⟩ := hv
  have hts := atoms_spec (ws := Cond.code y q.2.1 q.2.2.1 q.2.2.2.1 :: TBL) B.pre
  have hown : s.vm.findClass y.cls = some m.cls := findClass_of_methodNamed B.named
  have hl := lv_entry (avs d) (n := q.2.2.1) hn
  rw [lg_entry_eq]
  generalize (lg_sl (avs d) ++ List.replicate (q.2.2.1 - (lg_sl (avs d)).length) Slot.unset).toArray = ls at hl ⊢
  exact h ((p, l, e, (headSpec (Cond.code y q.2.1 q.2.2.1 q.2.2.2.1 :: TBL) (rmd q)).room, s), (m, (avs d).toArray, below, meth, c), d)
    ⟨B.exec, B.bytes, B.returns, hml, by rw [← hc]; exact hown, fun x hx => hts x (List.mem_cons_of_mem _ hx), hK, B.notSynchronized, rfl, hNw, hI, hX⟩ ls s.heap [] hl ⟨hP, va_S.rf⟩
section ROWS
variable {E : XE} {Λ : Lay} {q : MD} {σ : Mem} {pc : Nat} {lv : List (Nat × Value)} {st : List Value} {res : Option Int32 × Mem}
theorem G.at (h : ∀ σ', σ' = σ → G E Λ q σ' pc lv st res) : G E Λ q σ pc lv st res := h σ rfl
theorem r_sub {lv' : List (Nat × Value)} (ks : List Nat) (h : lv_pick lv ks = lv') (k : G E Λ q σ pc lv' st res) : G E Λ q σ pc lv st res := fun C ls H locs hl hw => k C ls H locs (lv_sub hl ks h) hw

theorem r_iconst {n : Int} {v : Int32} (hd : decode q.2.1 pc = .ok (.iconst n, 1)) (hv : Int32.ofInt n = v) (k : G E Λ q σ (pc + 1) lv (.int v :: st) res) : G E Λ q σ pc lv (st) res := fun C ls H locs hl hw => lv_iconst C.1 C.2.1 hd hv (k C ls H locs hl hw)
theorem r_bipush {n : Int} {v : Int32} (hd : decode q.2.1 pc = .ok (.bipush n, 2)) (hv : (Int8.ofInt n).toInt32 = v) (k : G E Λ q σ (pc + 2) lv (.int v :: st) res) : G E Λ q σ pc lv (st) res := fun C ls H locs hl hw => lv_bipush C.1 C.2.1 hd hv (k C ls H locs hl hw)
theorem r_sipush {n : Int} {v : Int32} (hd : decode q.2.1 pc = .ok (.sipush n, 3)) (hv : (Int16.ofInt n).toInt32 = v) (k : G E Λ q σ (pc + 3) lv (.int v :: st) res) : G E Λ q σ pc lv (st) res := fun C ls H locs hl hw => lv_sipush C.1 C.2.1 hd hv (k C ls H locs hl hw)
theorem r_ldc {index : Nat} {v : Int32} (hw0 : Cond.constant q.1 index v ∈ TBL) (hd : decode q.2.1 pc = .ok (.ldc index, 2)) (k : G E Λ q σ (pc + 2) lv (.int v :: st) res) : G E Λ q σ pc lv st res := fun C ls H locs hl hw => lv_ldc C.1 C.2.1 C.2.2.2.2.1 (C.2.2.2.2.2.1 _ hw0) hd (k C ls H locs hl hw)
theorem r_ldcw {index : Nat} {v : Int32} (hw0 : Cond.constant q.1 index v ∈ TBL) (hd : decode q.2.1 pc = .ok (.ldc_w index, 3)) (k : G E Λ q σ (pc + 3) lv (.int v :: st) res) : G E Λ q σ pc lv st res := fun C ls H locs hl hw => lv_ldcw C.1 C.2.1 C.2.2.2.2.1 (C.2.2.2.2.2.1 _ hw0) hd (k C ls H locs hl hw)
theorem r_ldc2 {index : Nat} {v : Int64} (hw0 : Cond.constantLong q.1 index v ∈ TBL) (hd : decode q.2.1 pc = .ok (.ldc2_w index, 3)) (k : G E Λ q σ (pc + 3) lv (.long v :: st) res) : G E Λ q σ pc lv st res := fun C ls H locs hl hw => lv_ldc2 C.1 C.2.1 C.2.2.2.2.1 (C.2.2.2.2.2.1 _ hw0) hd (k C ls H locs hl hw)
theorem r_ldcS {j index : Nat} (hj : j < nJS) (ho : q.1 = ownJS) (hi : idJS.getD j 0 = index) (hd : decode q.2.1 pc = .ok (.ldc index, 2)) (k : G E Λ q σ (pc + 2) lv (.ref (xs E j) :: st) res) : G E Λ q σ pc lv st res := fun C ls H locs hl hw => va_ldcS C.1 C.2.1 C.2.2.2.2.1 (by rw [ho, ← hi]; exact C.2.2.2.2.2.2.2.2.2.2.2.2.1 j hj) hd (k C ls H locs hl hw)
theorem r_iload_n {j : Fin 4} {i : Nat} {x : Int32} (a : Nat) (hd : decode q.2.1 pc = .ok (.iload_n j, 1)) (hi : (j : Nat) = i) (hk : lv[a]? = some (i, .int x)) (k : G E Λ q σ (pc + 1) lv (.int x :: st) res) : G E Λ q σ pc lv st res := fun C ls H locs hl hw => lv_iload_n C.1 C.2.1 hd hi (lv_at hl a hk) (k C ls H locs hl hw)
theorem r_iload {i : Nat} {x : Int32} (a : Nat) (hd : decode q.2.1 pc = .ok (.iload i, 2)) (hk : lv[a]? = some (i, .int x)) (k : G E Λ q σ (pc + 2) lv (.int x :: st) res) : G E Λ q σ pc lv st res := fun C ls H locs hl hw => lv_iload C.1 C.2.1 hd (lv_at hl a hk) (k C ls H locs hl hw)
theorem r_aload_n {j : Fin 4} {i : Nat} {x : Nat} (a : Nat) (hd : decode q.2.1 pc = .ok (.aload_n j, 1)) (hi : (j : Nat) = i) (hk : lv[a]? = some (i, .ref x)) (k : G E Λ q σ (pc + 1) lv (.ref x :: st) res) : G E Λ q σ pc lv st res := fun C ls H locs hl hw => lv_aload_n C.1 C.2.1 hd hi (lv_at hl a hk) (k C ls H locs hl hw)
theorem r_aload {i : Nat} {x : Nat} (a : Nat) (hd : decode q.2.1 pc = .ok (.aload i, 2)) (hk : lv[a]? = some (i, .ref x)) (k : G E Λ q σ (pc + 2) lv (.ref x :: st) res) : G E Λ q σ pc lv st res := fun C ls H locs hl hw => lv_aload C.1 C.2.1 hd (lv_at hl a hk) (k C ls H locs hl hw)
theorem r_lload_n {j : Fin 4} {i : Nat} {x : Int64} (a : Nat) (hd : decode q.2.1 pc = .ok (.lload_n j, 1)) (hi : (j : Nat) = i) (hk : lv[a]? = some (i, .long x)) (k : G E Λ q σ (pc + 1) lv (.long x :: st) res) : G E Λ q σ pc lv st res := fun C ls H locs hl hw => lv_lload_n C.1 C.2.1 hd hi (lv_at hl a hk) (k C ls H locs hl hw)
theorem r_istore_n {j : Fin 4} {i : Nat} {x : Int32} {lv' : List (Nat × Value)} (hd : decode q.2.1 pc = .ok (.istore_n j, 1)) (hi : (j : Nat) = i) (hn : i < q.2.2.1) (h : (i, Value.int x) :: lv.filter (fun z => !(z.1 == i) && !(z.1 + 1 == i && z.2.category == 2)) = lv') (k : G E Λ q σ (pc + 1) lv' st res) : G E Λ q σ pc lv (.int x :: st) res := fun C ls H locs hl hw => lv_istore_n C.1 C.2.1 hd hi hl hn h (fun ls' hl' => k C ls' H locs hl' hw)
theorem r_istore {i : Nat} {x : Int32} {lv' : List (Nat × Value)} (hd : decode q.2.1 pc = .ok (.istore i, 2)) (hn : i < q.2.2.1) (h : (i, Value.int x) :: lv.filter (fun z => !(z.1 == i) && !(z.1 + 1 == i && z.2.category == 2)) = lv') (k : G E Λ q σ (pc + 2) lv' st res) : G E Λ q σ pc lv (.int x :: st) res := fun C ls H locs hl hw => lv_istore C.1 C.2.1 hd hl hn h (fun ls' hl' => k C ls' H locs hl' hw)
theorem r_astore_n {j : Fin 4} {i : Nat} {x : Nat} {lv' : List (Nat × Value)} (hd : decode q.2.1 pc = .ok (.astore_n j, 1)) (hi : (j : Nat) = i) (hn : i < q.2.2.1) (h : (i, Value.ref x) :: lv.filter (fun z => !(z.1 == i) && !(z.1 + 1 == i && z.2.category == 2)) = lv') (k : G E Λ q σ (pc + 1) lv' st res) : G E Λ q σ pc lv (.ref x :: st) res := fun C ls H locs hl hw => lv_astore_n C.1 C.2.1 hd hi hl hn h (fun ls' hl' => k C ls' H locs hl' hw)
theorem r_astore {i : Nat} {x : Nat} {lv' : List (Nat × Value)} (hd : decode q.2.1 pc = .ok (.astore i, 2)) (hn : i < q.2.2.1) (h : (i, Value.ref x) :: lv.filter (fun z => !(z.1 == i) && !(z.1 + 1 == i && z.2.category == 2)) = lv') (k : G E Λ q σ (pc + 2) lv' st res) : G E Λ q σ pc lv (.ref x :: st) res := fun C ls H locs hl hw => lv_astore C.1 C.2.1 hd hl hn h (fun ls' hl' => k C ls' H locs hl' hw)
theorem r_iinc {i : Nat} {n : Int} {x v : Int32} {lv' : List (Nat × Value)} (a : Nat) (hd : decode q.2.1 pc = .ok (.iinc i n, 3)) (hk : lv[a]? = some (i, .int x)) (hv : x + Int32.ofInt n = v) (hn : i < q.2.2.1) (h : (i, Value.int v) :: lv.filter (fun z => !(z.1 == i) && !(z.1 + 1 == i && z.2.category == 2)) = lv') (k : G E Λ q σ (pc + 3) lv' st res) : G E Λ q σ pc lv st res := fun C ls H locs hl hw => lv_iinc C.1 C.2.1 hd hl hk hv hn h (fun ls' hl' => k C ls' H locs hl' hw)
theorem r_iadd {x y : Int32} (hd : decode q.2.1 pc = .ok (.iadd, 1))  (k : G E Λ q σ (pc + 1) lv (.int (x + y) :: st) res) : G E Λ q σ pc lv (.int y :: .int x :: st) res := fun C ls H locs hl hw => lv_iadd C.1 C.2.1 hd  (k C ls H locs hl hw)
theorem r_isub {x y : Int32} (hd : decode q.2.1 pc = .ok (.isub, 1))  (k : G E Λ q σ (pc + 1) lv (.int (x - y) :: st) res) : G E Λ q σ pc lv (.int y :: .int x :: st) res := fun C ls H locs hl hw => lv_isub C.1 C.2.1 hd  (k C ls H locs hl hw)
theorem r_imul {x y : Int32} (hd : decode q.2.1 pc = .ok (.imul, 1))  (k : G E Λ q σ (pc + 1) lv (.int (x * y) :: st) res) : G E Λ q σ pc lv (.int y :: .int x :: st) res := fun C ls H locs hl hw => lv_imul C.1 C.2.1 hd  (k C ls H locs hl hw)
theorem r_iand {x y : Int32} (hd : decode q.2.1 pc = .ok (.iand, 1))  (k : G E Λ q σ (pc + 1) lv (.int (x &&& y) :: st) res) : G E Λ q σ pc lv (.int y :: .int x :: st) res := fun C ls H locs hl hw => lv_iand C.1 C.2.1 hd  (k C ls H locs hl hw)
theorem r_ior {x y : Int32} (hd : decode q.2.1 pc = .ok (.ior, 1))  (k : G E Λ q σ (pc + 1) lv (.int (x ||| y) :: st) res) : G E Λ q σ pc lv (.int y :: .int x :: st) res := fun C ls H locs hl hw => lv_ior C.1 C.2.1 hd  (k C ls H locs hl hw)
theorem r_ishl {x y : Int32} (hd : decode q.2.1 pc = .ok (.ishl, 1))  (k : G E Λ q σ (pc + 1) lv (.int (x <<< (y &&& 31)) :: st) res) : G E Λ q σ pc lv (.int y :: .int x :: st) res := fun C ls H locs hl hw => lv_ishl C.1 C.2.1 hd  (k C ls H locs hl hw)
theorem r_ishr {x y : Int32} (hd : decode q.2.1 pc = .ok (.ishr, 1))  (k : G E Λ q σ (pc + 1) lv (.int (x >>> (y &&& 31)) :: st) res) : G E Λ q σ pc lv (.int y :: .int x :: st) res := fun C ls H locs hl hw => lv_ishr C.1 C.2.1 hd  (k C ls H locs hl hw)
theorem r_idiv {x y : Int32} (hd : decode q.2.1 pc = .ok (.idiv, 1)) (hne : ¬ y = 0) (k : G E Λ q σ (pc + 1) lv (.int (x / y) :: st) res) : G E Λ q σ pc lv (.int y :: .int x :: st) res := fun C ls H locs hl hw => lv_idiv C.1 C.2.1 hd hne (k C ls H locs hl hw)
theorem r_irem {x y : Int32} (hd : decode q.2.1 pc = .ok (.irem, 1)) (hne : ¬ y = 0) (k : G E Λ q σ (pc + 1) lv (.int (x - x / y * y) :: st) res) : G E Λ q σ pc lv (.int y :: .int x :: st) res := fun C ls H locs hl hw => lv_irem C.1 C.2.1 hd hne (k C ls H locs hl hw)
theorem r_i2b {x : Int32} (hd : decode q.2.1 pc = .ok (.i2b, 1))  (k : G E Λ q σ (pc + 1) lv (.int (x.toInt8.toInt32) :: st) res) : G E Λ q σ pc lv (.int x :: st) res := fun C ls H locs hl hw => lv_i2b C.1 C.2.1 hd rfl (k C ls H locs hl hw)
theorem r_i2c {x : Int32} (hd : decode q.2.1 pc = .ok (.i2c, 1))  (k : G E Λ q σ (pc + 1) lv (.int ((x.toUInt32 % 65536).toInt32) :: st) res) : G E Λ q σ pc lv (.int x :: st) res := fun C ls H locs hl hw => lv_i2c C.1 C.2.1 hd rfl (k C ls H locs hl hw)
theorem r_i2l {x : Int32} (hd : decode q.2.1 pc = .ok (.i2l, 1))  (k : G E Λ q σ (pc + 1) lv (.long (x.toInt64) :: st) res) : G E Λ q σ pc lv (.int x :: st) res := fun C ls H locs hl hw => lv_i2l C.1 C.2.1 hd rfl (k C ls H locs hl hw)
theorem r_l2i {x : Int64} (hd : decode q.2.1 pc = .ok (.l2i, 1))  (k : G E Λ q σ (pc + 1) lv (.int (x.toInt32) :: st) res) : G E Λ q σ pc lv (.long x :: st) res := fun C ls H locs hl hw => lv_l2i C.1 C.2.1 hd rfl (k C ls H locs hl hw)
theorem r_ladd {x y : Int64} (hd : decode q.2.1 pc = .ok (.ladd, 1))  (k : G E Λ q σ (pc + 1) lv (.long (x + y) :: st) res) : G E Λ q σ pc lv (.long y :: .long x :: st) res := fun C ls H locs hl hw => lv_ladd C.1 C.2.1 hd  (k C ls H locs hl hw)
theorem r_land {x y : Int64} (hd : decode q.2.1 pc = .ok (.land, 1))  (k : G E Λ q σ (pc + 1) lv (.long (x &&& y) :: st) res) : G E Λ q σ pc lv (.long y :: .long x :: st) res := fun C ls H locs hl hw => lv_land C.1 C.2.1 hd  (k C ls H locs hl hw)
theorem r_lshr {x : Int64} {y : Int32} (hd : decode q.2.1 pc = .ok (.lshr, 1))  (k : G E Λ q σ (pc + 1) lv (.long (x >>> (y.toInt64 &&& 63)) :: st) res) : G E Λ q σ pc lv (.int y :: .long x :: st) res := fun C ls H locs hl hw => lv_lshr C.1 C.2.1 hd rfl (k C ls H locs hl hw)
theorem r_lcmp {x y : Int64} (hd : decode q.2.1 pc = .ok (.lcmp, 1))  (k : G E Λ q σ (pc + 1) lv (.int (lg_cmp x y) :: st) res) : G E Λ q σ pc lv (.long y :: .long x :: st) res := fun C ls H locs hl hw => W.lcmp C.1 C.2.1 hd  (k C ls H locs hl hw)
theorem r_dup {v : Value} (hd : decode q.2.1 pc = .ok (.dup, 1)) (hv : v.category = 1) (k : G E Λ q σ (pc + 1) lv (v :: v :: st) res) : G E Λ q σ pc lv (v :: st) res := fun C ls H locs hl hw => lv_dup C.1 C.2.1 hd hv (k C ls H locs hl hw)
theorem r_pop {v : Value} (hd : decode q.2.1 pc = .ok (.pop, 1)) (hv : v.category = 1) (k : G E Λ q σ (pc + 1) lv (st) res) : G E Λ q σ pc lv (v :: st) res := fun C ls H locs hl hw => lv_pop C.1 C.2.1 hd hv (k C ls H locs hl hw)
theorem r_dup2 {u v : Value} (hd : decode q.2.1 pc = .ok (.dup2, 1)) (hu : u.category = 1) (hv : v.category = 1) (k : G E Λ q σ (pc + 1) lv (u :: v :: u :: v :: st) res) : G E Λ q σ pc lv (u :: v :: st) res := fun C ls H locs hl hw => lv_dup2_11 C.1 C.2.1 hd hu hv (k C ls H locs hl hw)
theorem r_goto {off : Int} (tgt : Nat) (hd : decode q.2.1 pc = .ok (.goto off, 3)) (ht : (pc : Int) + off = (tgt : Int)) (k : G E Λ q σ tgt lv st res) : G E Λ q σ pc lv st res := fun C ls H locs hl hw => lv_goto C.1 C.2.1 hd ht (k C ls H locs hl hw)
theorem ite_k {α : Sort _} {c P : Prop} {dc : Decidable c} {A B R : α} (h : (@ite α c dc A B) = R) (kt : c → A = R → P) (kf : ¬ c → B = R → P) : P := by
  by_cases hc : c
  · rw [if_pos hc] at h; exact kt hc h
  · rw [if_neg hc] at h; exact kf hc h
theorem ti_ne {x v : Int32} {z : Int} (h : ¬ x = v) (hz : v.toInt = z) : x.toInt ≠ z := fun e => h (Int32.toInt_inj.mp (e.trans hz.symm))
theorem r_icmp_eq {α : Type} {A B Z : α} {x y : Int32} {off : Int} (tgt : Nat) (hd : decode q.2.1 pc = .ok (.if_icmp .eq off, 3)) (ht : (pc : Int) + off = (tgt : Int)) (h : (if x = y then A else B) = Z) (kt : x = y → A = Z → G E Λ q σ tgt lv st res) (kf : ¬ x = y → B = Z → G E Λ q σ (pc + 3) lv st res) : G E Λ q σ pc lv (.int y :: .int x :: st) res := fun C ls H locs hl hw => lv_icmp_eq C.1 C.2.1 hd ht (fun c => kt c ((if_pos c).symm.trans h) C ls H locs hl hw) (fun c => kf c ((if_neg c).symm.trans h) C ls H locs hl hw)
theorem r_if_eq {α : Type} {A B Z : α} {x : Int32} {off : Int} (tgt : Nat) (hd : decode q.2.1 pc = .ok (.ifCond .eq off, 3)) (ht : (pc : Int) + off = (tgt : Int)) (h : (if x = 0 then A else B) = Z) (kt : x = 0 → A = Z → G E Λ q σ tgt lv st res) (kf : ¬ x = 0 → B = Z → G E Λ q σ (pc + 3) lv st res) : G E Λ q σ pc lv (.int x :: st) res := fun C ls H locs hl hw => lv_if_eq C.1 C.2.1 hd ht (fun c => kt c ((if_pos c).symm.trans h) C ls H locs hl hw) (fun c => kf c ((if_neg c).symm.trans h) C ls H locs hl hw)
theorem r_icmp_ne {α : Type} {A B Z : α} {x y : Int32} {off : Int} (tgt : Nat) (hd : decode q.2.1 pc = .ok (.if_icmp .ne off, 3)) (ht : (pc : Int) + off = (tgt : Int)) (h : (if x = y then A else B) = Z) (kf : x = y → A = Z → G E Λ q σ (pc + 3) lv st res) (kt : ¬ x = y → B = Z → G E Λ q σ tgt lv st res) : G E Λ q σ pc lv (.int y :: .int x :: st) res := fun C ls H locs hl hw => lv_icmp_ne C.1 C.2.1 hd ht (fun c => kt c ((if_neg c).symm.trans h) C ls H locs hl hw) (fun c => kf c ((if_pos c).symm.trans h) C ls H locs hl hw)
theorem r_if_ne {α : Type} {A B Z : α} {x : Int32} {off : Int} (tgt : Nat) (hd : decode q.2.1 pc = .ok (.ifCond .ne off, 3)) (ht : (pc : Int) + off = (tgt : Int)) (h : (if x = 0 then A else B) = Z) (kf : x = 0 → A = Z → G E Λ q σ (pc + 3) lv st res) (kt : ¬ x = 0 → B = Z → G E Λ q σ tgt lv st res) : G E Λ q σ pc lv (.int x :: st) res := fun C ls H locs hl hw => lv_if_ne C.1 C.2.1 hd ht (fun c => kt c ((if_neg c).symm.trans h) C ls H locs hl hw) (fun c => kf c ((if_pos c).symm.trans h) C ls H locs hl hw)
theorem r_icmp_lt {α : Type} {A B Z : α} {x y : Int32} {off : Int} (tgt : Nat) (hd : decode q.2.1 pc = .ok (.if_icmp .lt off, 3)) (ht : (pc : Int) + off = (tgt : Int)) (h : (if x < y then A else B) = Z) (kt : x < y → A = Z → G E Λ q σ tgt lv st res) (kf : ¬ x < y → B = Z → G E Λ q σ (pc + 3) lv st res) : G E Λ q σ pc lv (.int y :: .int x :: st) res := fun C ls H locs hl hw => lv_icmp_lt C.1 C.2.1 hd ht (fun c => kt c ((if_pos c).symm.trans h) C ls H locs hl hw) (fun c => kf c ((if_neg c).symm.trans h) C ls H locs hl hw)
theorem r_if_lt {α : Type} {A B Z : α} {x : Int32} {off : Int} (tgt : Nat) (hd : decode q.2.1 pc = .ok (.ifCond .lt off, 3)) (ht : (pc : Int) + off = (tgt : Int)) (h : (if x < 0 then A else B) = Z) (kt : x < 0 → A = Z → G E Λ q σ tgt lv st res) (kf : ¬ x < 0 → B = Z → G E Λ q σ (pc + 3) lv st res) : G E Λ q σ pc lv (.int x :: st) res := fun C ls H locs hl hw => lv_if_lt C.1 C.2.1 hd ht (fun c => kt c ((if_pos c).symm.trans h) C ls H locs hl hw) (fun c => kf c ((if_neg c).symm.trans h) C ls H locs hl hw)
theorem r_icmp_ge {α : Type} {A B Z : α} {x y : Int32} {off : Int} (tgt : Nat) (hd : decode q.2.1 pc = .ok (.if_icmp .ge off, 3)) (ht : (pc : Int) + off = (tgt : Int)) (h : (if y ≤ x then A else B) = Z) (kt : y ≤ x → A = Z → G E Λ q σ tgt lv st res) (kf : ¬ y ≤ x → B = Z → G E Λ q σ (pc + 3) lv st res) : G E Λ q σ pc lv (.int y :: .int x :: st) res := fun C ls H locs hl hw => lv_icmp_ge C.1 C.2.1 hd ht (fun c => kt c ((if_pos c).symm.trans h) C ls H locs hl hw) (fun c => kf c ((if_neg c).symm.trans h) C ls H locs hl hw)
theorem r_if_ge {α : Type} {A B Z : α} {x : Int32} {off : Int} (tgt : Nat) (hd : decode q.2.1 pc = .ok (.ifCond .ge off, 3)) (ht : (pc : Int) + off = (tgt : Int)) (h : (if 0 ≤ x then A else B) = Z) (kt : 0 ≤ x → A = Z → G E Λ q σ tgt lv st res) (kf : ¬ 0 ≤ x → B = Z → G E Λ q σ (pc + 3) lv st res) : G E Λ q σ pc lv (.int x :: st) res := fun C ls H locs hl hw => lv_if_ge C.1 C.2.1 hd ht (fun c => kt c ((if_pos c).symm.trans h) C ls H locs hl hw) (fun c => kf c ((if_neg c).symm.trans h) C ls H locs hl hw)
theorem r_icmp_gt {α : Type} {A B Z : α} {x y : Int32} {off : Int} (tgt : Nat) (hd : decode q.2.1 pc = .ok (.if_icmp .gt off, 3)) (ht : (pc : Int) + off = (tgt : Int)) (h : (if y < x then A else B) = Z) (kt : y < x → A = Z → G E Λ q σ tgt lv st res) (kf : ¬ y < x → B = Z → G E Λ q σ (pc + 3) lv st res) : G E Λ q σ pc lv (.int y :: .int x :: st) res := fun C ls H locs hl hw => lv_icmp_gt C.1 C.2.1 hd ht (fun c => kt c ((if_pos c).symm.trans h) C ls H locs hl hw) (fun c => kf c ((if_neg c).symm.trans h) C ls H locs hl hw)
theorem r_if_gt {α : Type} {A B Z : α} {x : Int32} {off : Int} (tgt : Nat) (hd : decode q.2.1 pc = .ok (.ifCond .gt off, 3)) (ht : (pc : Int) + off = (tgt : Int)) (h : (if 0 < x then A else B) = Z) (kt : 0 < x → A = Z → G E Λ q σ tgt lv st res) (kf : ¬ 0 < x → B = Z → G E Λ q σ (pc + 3) lv st res) : G E Λ q σ pc lv (.int x :: st) res := fun C ls H locs hl hw => lv_if_gt C.1 C.2.1 hd ht (fun c => kt c ((if_pos c).symm.trans h) C ls H locs hl hw) (fun c => kf c ((if_neg c).symm.trans h) C ls H locs hl hw)
theorem r_icmp_le {α : Type} {A B Z : α} {x y : Int32} {off : Int} (tgt : Nat) (hd : decode q.2.1 pc = .ok (.if_icmp .le off, 3)) (ht : (pc : Int) + off = (tgt : Int)) (h : (if x ≤ y then A else B) = Z) (kt : x ≤ y → A = Z → G E Λ q σ tgt lv st res) (kf : ¬ x ≤ y → B = Z → G E Λ q σ (pc + 3) lv st res) : G E Λ q σ pc lv (.int y :: .int x :: st) res := fun C ls H locs hl hw => lv_icmp_le C.1 C.2.1 hd ht (fun c => kt c ((if_pos c).symm.trans h) C ls H locs hl hw) (fun c => kf c ((if_neg c).symm.trans h) C ls H locs hl hw)
theorem r_if_le {α : Type} {A B Z : α} {x : Int32} {off : Int} (tgt : Nat) (hd : decode q.2.1 pc = .ok (.ifCond .le off, 3)) (ht : (pc : Int) + off = (tgt : Int)) (h : (if x ≤ 0 then A else B) = Z) (kt : x ≤ 0 → A = Z → G E Λ q σ tgt lv st res) (kf : ¬ x ≤ 0 → B = Z → G E Λ q σ (pc + 3) lv st res) : G E Λ q σ pc lv (.int x :: st) res := fun C ls H locs hl hw => lv_if_le C.1 C.2.1 hd ht (fun c => kt c ((if_pos c).symm.trans h) C ls H locs hl hw) (fun c => kf c ((if_neg c).symm.trans h) C ls H locs hl hw)
theorem r_tabIn {x v : Int32} {dflt lo hi off : Int} {offs : Array Int} {len : Nat} (tgt : Nat) (c : x = v) (hd : decode q.2.1 pc = .ok (.tableswitch dflt lo hi offs, len)) (h1 : ¬ v.toInt < lo) (h2 : ¬ hi < v.toInt) (ho : offs[(v.toInt - lo).toNat]? = some off) (ht : (pc : Int) + off = (tgt : Int)) (k : G E Λ q σ tgt lv st res) : G E Λ q σ pc lv (.int x :: st) res := by
  subst c
  exact fun C ls H locs hl hw => lv_tableIn C.1 C.2.1 hd h1 h2 ho ht (k C ls H locs hl hw)
theorem r_tabOut {x : Int32} {dflt lo hi : Int} {offs : Array Int} {len : Nat} (tgt : Nat) (hd : decode q.2.1 pc = .ok (.tableswitch dflt lo hi offs, len)) (h : x.toInt < lo ∨ hi < x.toInt) (ht : (pc : Int) + dflt = (tgt : Int)) (k : G E Λ q σ tgt lv st res) : G E Λ q σ pc lv (.int x :: st) res := fun C ls H locs hl hw => lv_tableOut C.1 C.2.1 hd h ht (k C ls H locs hl hw)
theorem r_lookup {x : Int32} {dflt off : Int} {ps : Array (Int × Int)} {len : Nat} (tgt : Nat) (hd : decode q.2.1 pc = .ok (.lookupswitch dflt ps, len)) (hp : (ps.toList.zip (ps.toList.drop 1)).all (fun (a, next) => a.1 < next.1) = true) (ho : Op.lookupswitch.offset ps.toList dflt x.toInt = off) (ht : (pc : Int) + off = (tgt : Int)) (k : G E Λ q σ tgt lv st res) : G E Λ q σ pc lv (.int x :: st) res := fun C ls H locs hl hw => lv_lookup C.1 C.2.1 hd hp ho ht (k C ls H locs hl hw)
-- fields
def FdX (own : String) (idx ci k : Nat) : Prop := ∃ (C : String) (T : u_T) (N : Nat), vwCl[ci]? = some (C, T, N) ∧ (∀ x ∈ u_ws C T N, x ∈ TBL) ∧ k < N ∧ (T k).1 = C ∧ (Cond.fieldLink own idx C (T k).2.1 (T k).2.2.1 ∈ TBL ∨ ∃ h, Cond.fieldLinkNest own idx C (T k).2.1 (T k).2.2.1 h ∈ NWL)
def FpX (own : String) (idx ci k : Nat) (ty : FieldType) : Prop := ∃ (C : String) (T : u_T) (N : Nat) (ty0 : Nat → FieldType), vwCl[ci]? = some (C, T, N) ∧ (∀ x ∈ u_ws C T N, x ∈ TBL) ∧ k < N ∧ (T k).1 = C ∧ (Cond.fieldLink own idx C (T k).2.1 (T k).2.2.1 ∈ TBL ∨ ∃ h, Cond.fieldLinkNest own idx C (T k).2.1 (T k).2.2.1 h ∈ NWL) ∧ (∀ k, k < N → parseFieldDescriptor (T k).2.2.1 = some (ty0 k)) ∧ (∀ a, a < N → ∀ b, b < N → a ≠ b → (T a).2.1 ≠ (T b).2.1) ∧ (T k).2.2.2 = false ∧ parseFieldDescriptor (T k).2.2.1 = some ty
theorem r_getV {i ci k idx : Nat} {v : Value} (hf : FdX q.1 idx ci k) (hN : i < Λ.1) (hK : Λ.2.1 i = ci) (hc11 : ci < 11) (hv : (flds E.2.2.2.2.1 Λ σ i)[k]? = some v) (hd : decode q.2.1 pc = .ok (.getfield idx, 3)) (kk : G E Λ q σ (pc + 3) lv (v :: st) res) : G E Λ q σ pc lv (.ref (xa E i) :: st) res := by
  intro C ls H locs hl hw
  obtain ⟨Cn, T, N, hc, hin, hk, ho, h1 | ⟨h, h1⟩⟩ := hf
  · exact va_get C.1 C.2.1 C.2.2.2.2.2.1 hin C.2.2.2.2.1 C.2.2.2.2.2.2.1 hw.1 i ((wl_get hN).trans (by rw [cel_obj hK hc11])) hc k hk (C.2.2.2.2.2.1 _ h1) (fun x hx => by rw [ho] at hx; exact hx) hv hd (kk C ls H locs hl hw)
  · exact va_getN C.1 C.2.1 C.2.2.2.2.2.1 hin C.2.2.2.2.1 C.2.2.2.2.2.2.1 hw.1 i ((wl_get hN).trans (by rw [cel_obj hK hc11])) hc k hk (va_Nw.use rfl (C.2.2.2.2.2.2.2.2.2.1 _ h1)) (fun x hx => by rw [ho] at hx; exact hx) hv hd (kk C ls H locs hl hw)
theorem r_getI {i ci k idx : Nat} (hf : FdX q.1 idx ci k) (hN : i < Λ.1) (hK : Λ.2.1 i = ci) (hs : ci < 11 ∧ k < nfd ci ∧ isRf ci k = false) (hd : decode q.2.1 pc = .ok (.getfield idx, 3)) (kk : G E Λ q σ (pc + 3) lv (.int (σ i k) :: st) res) : G E Λ q σ pc lv (.ref (xa E i) :: st) res := r_getV hf hN hK hs.1 (flds_int hK hs.2.1 hs.2.2) hd kk
theorem r_getR {i ci k idx j : Nat} (hf : FdX q.1 idx ci k) (hN : i < Λ.1) (hK : Λ.2.1 i = ci) (hs : ci < 11 ∧ k < nfd ci ∧ isRf ci k = true) (hr : Λ.2.2.2 i k = j) (hd : decode q.2.1 pc = .ok (.getfield idx, 3)) (kk : G E Λ q σ (pc + 3) lv (.ref (xa E j) :: st) res) : G E Λ q σ pc lv (.ref (xa E i) :: st) res := r_getV hf hN hK hs.1 (by rw [← hr]; exact flds_ref hK hs.2.1 hs.2.2) hd kk
theorem r_putI {i ci k idx : Nat} {ty : FieldType} {v : Int32} (hf : FpX q.1 idx ci k ty) (hN : i < Λ.1) (hK : Λ.2.1 i = ci) (hs : ci < 11 ∧ k < nfd ci ∧ isRf ci k = false) (hn : narrow ty (.int v) = .int v) (hfit : fits ty (.int v) = true) (hd : decode q.2.1 pc = .ok (.putfield idx, 3)) (kk : G E Λ q (mset σ i k v) (pc + 3) lv st res) : G E Λ q σ pc lv (.int v :: .ref (xa E i) :: st) res := by
  intro C ls H locs hl hw
  have hset : (wl E.2.2 Λ σ).set i (E.2.2.2.2.1 i, .inr (ci, (flds E.2.2.2.2.1 Λ σ i).set k (.int v))) = wl E.2.2 Λ (mset σ i k v) := wl_set hN (by rw [cel_obj hK hs.1, flds_set hK hs.2.2])
  have go : ∀ (H1 : Heap) (locs1 : List Loc), va_P E.2.2.1 vwCl ((wl E.2.2 Λ σ).set i (E.2.2.2.2.1 i, .inr (ci, (flds E.2.2.2.2.1 Λ σ i).set k (.int v)))) H1 → va_D (AA E.2.2 Λ) ((wl E.2.2 Λ σ).set i (E.2.2.2.2.1 i, .inr (ci, (flds E.2.2.2.2.1 Λ σ i).set k (.int v)))) → va_S (AA E.2.2 Λ) E.1.2.2.2.2.heap H1 locs1 → W E.1.1 E.1.2.1 E.1.2.2.1 E.1.2.2.2.1 E.1.2.2.2.2 E.2.1.1 E.2.1.2.1 E.2.1.2.2.1 E.2.1.2.2.2.1 E.2.1.2.2.2.2 H1 locs1 0 0 (MQ E.2.1.2.2.1 (QR E.2.2 Λ res) E.2.1.2.1 E.1.2.2.2.2 0 0 (AA E.2.2 Λ)) (F0 E.2.1.1 (pc + 3) ls st) := fun H1 locs1 hP1 _ hS1 => kk C ls H1 locs1 hl ⟨by rw [← hset]; exact hP1, hS1⟩
  have hlen : k < (flds E.2.2.2.2.1 Λ σ i).length := by rw [flds_len hK]; exact hs.2.1
  obtain ⟨Cn, T, N, ty0, hc, hin, hk, ho, hlk, hty, hnm, hfin, hpd⟩ := hf
  rcases hlk with h1 | ⟨h, h1⟩
  · exact va_put C.1 C.2.1 C.2.2.2.2.2.1 hin ty0 hty hnm C.2.2.2.2.1 C.2.2.2.2.2.2.1 hw.1 (wl_D C.2.2.2.2.2.2.2.2.2.2.1) hw.2 i ((wl_get hN).trans (by rw [cel_obj hK hs.1])) hc k hk (C.2.2.2.2.2.1 _ h1) (fun x hx => by rw [ho] at hx; exact hx) hfin hpd hn hfit hlen hd go
  · exact va_putN C.1 C.2.1 C.2.2.2.2.2.1 hin ty0 hty hnm C.2.2.2.2.1 C.2.2.2.2.2.2.1 hw.1 (wl_D C.2.2.2.2.2.2.2.2.2.2.1) hw.2 i ((wl_get hN).trans (by rw [cel_obj hK hs.1])) hc k hk (va_Nw.use rfl (C.2.2.2.2.2.2.2.2.2.1 _ h1)) (fun x hx => by rw [ho] at hx; exact hx) hfin hpd hn hfit hlen hd go
-- arrays
def inb (j : Int32) (n : Nat) : Bool := decide (¬ (j < 0 ∨ n ≤ j.toNatClampNeg))
theorem inb_in {j : Int32} {n : Nat} (h : inb j n = true) : vp_in j n := by
  have h2 : ¬ (j < 0 ∨ n ≤ j.toNatClampNeg) := of_decide_eq_true h
  exact h2
theorem inb_lt {j : Int32} {n : Nat} (h : inb j n = true) : j.toNatClampNeg < n := Nat.not_le.mp fun z => (inb_in h) (Or.inr z)
theorem inb_k {α : Type} {j : Int32} {n : Nat} {A : Option α} {Z : α} {P : Prop} (h : (if inb j n = true then A else none) = some Z) (k : inb j n = true → A = some Z → P) : P := by
  by_cases c : inb j n = true
  · rw [if_pos c] at h; exact k c h
  · rw [if_neg c] at h; cases h
theorem r_iald {i n : Nat} {j : Int32} (m : Nat) (hm : j.toNatClampNeg = m) (hN : i < Λ.1) (hK : Λ.2.1 i = 12) (hlen : Λ.2.2.1 i = n) (hb : inb j n = true) (hd : decode q.2.1 pc = .ok (.iaload, 1)) (kk : G E Λ q σ (pc + 1) lv (.int (σ i m) :: st) res) : G E Λ q σ pc lv (.int j :: .ref (xa E i) :: st) res := fun C ls H locs hl hw => va_iald C.1 C.2.1 C.2.2.2.2.2.2.1 hw.1 i 1 ((wl_get hN).trans (by rw [cel_int hK (by decide) (by decide)])) rfl (by rw [hlen]; exact inb_in hb) hd (by subst hm; exact kk C ls H locs hl hw)
theorem r_bald {i n : Nat} {j : Int32} (m : Nat) (hm : j.toNatClampNeg = m) (hN : i < Λ.1) (hK : Λ.2.1 i = 11) (hlen : Λ.2.2.1 i = n) (hb : inb j n = true) (hd : decode q.2.1 pc = .ok (.baload, 1)) (kk : G E Λ q σ (pc + 1) lv (.int (σ i m) :: st) res) : G E Λ q σ pc lv (.int j :: .ref (xa E i) :: st) res := fun C ls H locs hl hw => va_bald C.1 C.2.1 C.2.2.2.2.2.2.1 hw.1 i 0 ((wl_get hN).trans (by rw [cel_int hK (by decide) (by decide)])) rfl (by rw [hlen]; exact inb_in hb) hd (by subst hm; exact kk C ls H locs hl hw)
theorem r_zald {i n : Nat} {j : Int32} (m : Nat) (hm : j.toNatClampNeg = m) (hN : i < Λ.1) (hK : Λ.2.1 i = 13) (hlen : Λ.2.2.1 i = n) (hb : inb j n = true) (hd : decode q.2.1 pc = .ok (.baload, 1)) (kk : G E Λ q σ (pc + 1) lv (.int (σ i m) :: st) res) : G E Λ q σ pc lv (.int j :: .ref (xa E i) :: st) res := fun C ls H locs hl hw => va_zald C.1 C.2.1 C.2.2.2.2.2.2.1 hw.1 i 2 ((wl_get hN).trans (by rw [cel_int hK (by decide) (by decide)])) rfl (by rw [hlen]; exact inb_in hb) hd (by subst hm; exact kk C ls H locs hl hw)
theorem r_iast {i n : Nat} {j x : Int32} (m : Nat) (v : Int32) (hm : j.toNatClampNeg = m) (hv : x = v) (hN : i < Λ.1) (hK : Λ.2.1 i = 12) (hlen : Λ.2.2.1 i = n) (hb : inb j n = true) (hd : decode q.2.1 pc = .ok (.iastore, 1)) (kk : G E Λ q (mset σ i m v) (pc + 1) lv st res) : G E Λ q σ pc lv (.int x :: .int j :: .ref (xa E i) :: st) res := by
  intro C ls H locs hl hw
  subst hm
  subst hv
  have hset : (wl E.2.2 Λ σ).set i (E.2.2.2.2.1 i, .inl (E.2.2.2.1 12, Λ.2.2.1 i, .inl (upd (σ i) j.toNatClampNeg x))) = wl E.2.2 Λ (mset σ i j.toNatClampNeg x) := wl_set hN (by rw [cel_int hK (by decide) (by decide), mset_eq])
  exact va_iast C.1 C.2.1 C.2.2.2.2.2.2.1 hw.1 (wl_D C.2.2.2.2.2.2.2.2.2.2.1) hw.2 i 1 ((wl_get hN).trans (by rw [cel_int hK (by decide) (by decide)])) rfl (by rw [hlen]; exact inb_in hb) hd (fun H1 locs1 hP1 _ hS1 => kk C ls H1 locs1 hl ⟨by rw [← hset]; exact hP1, hS1⟩)
theorem r_bast {i n : Nat} {j x : Int32} (m : Nat) (v : Int32) (hm : j.toNatClampNeg = m) (hv : (vp_nar .byte x) = v) (hN : i < Λ.1) (hK : Λ.2.1 i = 11) (hlen : Λ.2.2.1 i = n) (hb : inb j n = true) (hd : decode q.2.1 pc = .ok (.bastore, 1)) (kk : G E Λ q (mset σ i m v) (pc + 1) lv st res) : G E Λ q σ pc lv (.int x :: .int j :: .ref (xa E i) :: st) res := by
  intro C ls H locs hl hw
  subst hm
  subst hv
  have hset : (wl E.2.2 Λ σ).set i (E.2.2.2.2.1 i, .inl (E.2.2.2.1 11, Λ.2.2.1 i, .inl (upd (σ i) j.toNatClampNeg (vp_nar .byte x)))) = wl E.2.2 Λ (mset σ i j.toNatClampNeg (vp_nar .byte x)) := wl_set hN (by rw [cel_int hK (by decide) (by decide), mset_eq])
  exact va_bast C.1 C.2.1 C.2.2.2.2.2.2.1 hw.1 (wl_D C.2.2.2.2.2.2.2.2.2.2.1) hw.2 i 0 ((wl_get hN).trans (by rw [cel_int hK (by decide) (by decide)])) rfl (by rw [hlen]; exact inb_in hb) hd (fun H1 locs1 hP1 _ hS1 => kk C ls H1 locs1 hl ⟨by rw [← hset]; exact hP1, hS1⟩)
theorem r_zast {i n : Nat} {j x : Int32} (m : Nat) (v : Int32) (hm : j.toNatClampNeg = m) (hv : (vp_nar .boolean x) = v) (hN : i < Λ.1) (hK : Λ.2.1 i = 13) (hlen : Λ.2.2.1 i = n) (hb : inb j n = true) (hd : decode q.2.1 pc = .ok (.bastore, 1)) (kk : G E Λ q (mset σ i m v) (pc + 1) lv st res) : G E Λ q σ pc lv (.int x :: .int j :: .ref (xa E i) :: st) res := by
  intro C ls H locs hl hw
  subst hm
  subst hv
  have hset : (wl E.2.2 Λ σ).set i (E.2.2.2.2.1 i, .inl (E.2.2.2.1 13, Λ.2.2.1 i, .inl (upd (σ i) j.toNatClampNeg (vp_nar .boolean x)))) = wl E.2.2 Λ (mset σ i j.toNatClampNeg (vp_nar .boolean x)) := wl_set hN (by rw [cel_int hK (by decide) (by decide), mset_eq])
  exact va_zast C.1 C.2.1 C.2.2.2.2.2.2.1 hw.1 (wl_D C.2.2.2.2.2.2.2.2.2.2.1) hw.2 i 2 ((wl_get hN).trans (by rw [cel_int hK (by decide) (by decide)])) rfl (by rw [hlen]; exact inb_in hb) hd (fun H1 locs1 hP1 _ hS1 => kk C ls H1 locs1 hl ⟨by rw [← hset]; exact hP1, hS1⟩)
theorem r_aald14 {i n : Nat} {j : Int32} (m r : Nat) (hm : j.toNatClampNeg = m) (hN : i < Λ.1) (hK : Λ.2.1 i = 14) (hlen : Λ.2.2.1 i = n) (hr : Λ.2.2.2 i m = r) (hb : inb j n = true) (hd : decode q.2.1 pc = .ok (.aaload, 1)) (kk : G E Λ q σ (pc + 1) lv (.ref (xa E r) :: st) res) : G E Λ q σ pc lv (.int j :: .ref (xa E i) :: st) res := fun C ls H locs hl hw => va_aldq (C := "BridgeHouse$Arch") C.1 C.2.1 C.2.2.2.2.2.2.1 hw.1 i 3 ((wl_get hN).trans (by rw [cel_ref hK (by decide)])) rfl (by rw [hlen]; exact inb_in hb) hd (by subst hm; subst hr; exact kk C ls H locs hl hw)
theorem r_aald15 {i n : Nat} {j : Int32} (m r : Nat) (hm : j.toNatClampNeg = m) (hN : i < Λ.1) (hK : Λ.2.1 i = 15) (hlen : Λ.2.2.1 i = n) (hr : Λ.2.2.2 i m = r) (hb : inb j n = true) (hd : decode q.2.1 pc = .ok (.aaload, 1)) (kk : G E Λ q σ (pc + 1) lv (.ref (xa E r) :: st) res) : G E Λ q σ pc lv (.int j :: .ref (xa E i) :: st) res := fun C ls H locs hl hw => va_aldq (C := "BridgeHouse$Purse") C.1 C.2.1 C.2.2.2.2.2.2.1 hw.1 i 4 ((wl_get hN).trans (by rw [cel_ref hK (by decide)])) rfl (by rw [hlen]; exact inb_in hb) hd (by subst hm; subst hr; exact kk C ls H locs hl hw)
theorem r_aald16 {i n : Nat} {j : Int32} (m r : Nat) (hm : j.toNatClampNeg = m) (hN : i < Λ.1) (hK : Λ.2.1 i = 16) (hlen : Λ.2.2.1 i = n) (hr : Λ.2.2.2 i m = r) (hb : inb j n = true) (hd : decode q.2.1 pc = .ok (.aaload, 1)) (kk : G E Λ q σ (pc + 1) lv (.ref (xa E r) :: st) res) : G E Λ q σ pc lv (.int j :: .ref (xa E i) :: st) res := fun C ls H locs hl hw => va_aldq (C := "BridgeHouse$Sheet") C.1 C.2.1 C.2.2.2.2.2.2.1 hw.1 i 5 ((wl_get hN).trans (by rw [cel_ref hK (by decide)])) rfl (by rw [hlen]; exact inb_in hb) hd (by subst hm; subst hr; exact kk C ls H locs hl hw)
-- answers
theorem r_iret {v r : Int32} {σ' : Mem} (hq : q.2.2.2.1 = some .int) (hd : decode q.2.1 pc = .ok (.ireturn, 1)) (hv : v = r) (hs : σ = σ') : G E Λ q σ pc lv [.int v] (some r, σ') := by
  subst hv; subst hs
  exact fun C ls H locs hl hw => W.iret C.1 C.2.1 (by rw [C.2.2.1, hq]) (fun t ht hW => ⟨⟨rfl, by rw [ht]; exact hw.1⟩, hw.2.F ht⟩) hw.2.2.2 hd C.2.2.2.2.2.2.2.1
theorem r_zret {v r : Int32} {σ' : Mem} {ty : FieldType} (hq : q.2.2.2.1 = some ty) (hn : narrow ty (.int v) = .int v) (hd : decode q.2.1 pc = .ok (.ireturn, 1)) (hv : v = r) (hs : σ = σ') : G E Λ q σ pc lv [.int v] (some r, σ') := by
  subst hv; subst hs
  exact fun C ls H locs hl hw => W.zret C.1 C.2.1 (by rw [C.2.2.1, hq]) hn (fun t ht hW => ⟨⟨rfl, by rw [ht]; exact hw.1⟩, hw.2.F ht⟩) hw.2.2.2 hd C.2.2.2.2.2.2.2.1
theorem r_vret {σ' : Mem} (hq : q.2.2.2.1 = none) (hd : decode q.2.1 pc = .ok (.return_, 1)) (hs : σ = σ') : G E Λ q σ pc lv [] (none, σ') := by
  subst hs
  exact fun C ls H locs hl hw => W.vret C.1 C.2.1 (by rw [C.2.2.1, hq]) (fun t ht hW => ⟨⟨rfl, by rw [ht]; exact hw.1⟩, hw.2.F ht⟩) hw.2.2.2 hd C.2.2.2.2.2.2.2.1
-- calls
theorem pw_blind {d : SD} {Λ : Lay} {σ : Mem} {avs : List Value} : FrameBlind (va_Pc avs (PW d Λ σ)) := by
  intro a U g mk h
  obtain ⟨h1, hP, hK, hN, hI, hX⟩ := h
  exact ⟨h1, hP, va_K.moved (u := U) (U := U.calling g mk a) (Vm.Alike.refl U.vm) hK, fun x hx => va_Nw.same (nw_tab (List.mem_filter.mp hx).2) (u := U) (U := U.calling g mk a) rfl (hN x hx), hI, hX.same rfl⟩
theorem pw_at {H : Heap} {locs : List Loc} (C : Cx E Λ q) (hw : Wd E Λ σ H locs) {U : State} (hU : U.heap = H) (hW : E.1.2.2.2.2.WarmedH U.vm) : PW E.2.2 Λ σ U :=
  ⟨by rw [hU]; exact hw.1, va_K.moved hW.alike C.2.2.2.2.2.2.1, fun x hx => nw_warm hW (List.mem_filter.mp hx).2 (C.2.2.2.2.2.2.2.2.2.1 x hx), C.2.2.2.2.2.2.2.2.2.2.1, by rw [hU]; exact C.2.2.2.2.2.2.2.2.2.2.2.warm hW hw.2.2.1⟩
/-- behind a call -/
theorem r_back {H : Heap} {locs : List Loc} {ls : Array Slot} {stk rest : List Value} {avs : Array Value} {res' : Option Int32 × Mem} (C : Cx E Λ q) (hl : lv_has ls q.2.2.1 lv) (hw : Wd E Λ σ H locs)
    (hr : va_Run E.1.1 E.1.2.1 E.1.2.2.1 E.1.2.2.2.1 E.1.2.2.2.2 E.2.1.1 E.2.1.2.1 E.2.1.2.2.1 E.2.1.2.2.2.1 E.2.1.2.2.2.2 H locs 0 0 0 0 (F0 E.2.1.1 pc ls stk) rest (QR E.2.2 Λ res' avs) (AA E.2.2 Λ))
    (kk : G E Λ q res'.2 (pc + 3) lv ((res'.1.map Value.int).toList ++ rest) res) :
    W E.1.1 E.1.2.1 E.1.2.2.1 E.1.2.2.2.1 E.1.2.2.2.2 E.2.1.1 E.2.1.2.1 E.2.1.2.2.1 E.2.1.2.2.2.1 E.2.1.2.2.2.2 H locs 0 0 (MQ E.2.1.2.2.1 (QR E.2.2 Λ res) E.2.1.2.1 E.1.2.2.2.2 0 0 (AA E.2.2 Λ)) (F0 E.2.1.1 pc ls stk) := by
  intro T hT X
  obtain ⟨v, st₀, t, T', L, h0, X', hL, e1, e2, ⟨⟨hv, hP'⟩, hz, hk⟩, stp⟩ := hr T hT X
  cases hv
  rw [h0] at hz hk
  obtain ⟨t2, a1, b1⟩ := kk C ls T'.heap (locs ++ L) hl ⟨by rw [e1]; exact hP', Nat.le_trans hw.2.1 (by rw [e1]; exact hz), fun z h1 h2 => by rw [e1, hk z (Nat.lt_of_lt_of_le h1 hw.2.1) h2]; exact hw.2.2.1 z h1 h2, fun z hz2 => by
      rcases List.mem_append.mp hz2 with h | h
      · exact hw.2.2.2 z h
      · exact hL z h⟩ T' rfl X'
  exact ⟨t2, stp t2 a1, b1⟩
def Lk (own : String) (idx : Nat) (y : MethodName) (q' : MD) (n : Nat) : Prop := (Cond.methodLink own idx y ∈ TBL ∨ ∃ h, Cond.methodLinkNest own idx y h ∈ NWL) ∧ Cond.initialized y.cls ∈ TBL ∧ Cond.code y q'.2.1 q'.2.2.1 q'.2.2.2.1 ∈ TBL ∧ (y.cls ≠ "java/lang/invoke/MethodHandle" ∧ y.cls ≠ "java/lang/invoke/VarHandle" ∧ (parseMethodDescriptor y.desc).map (fun d => d.parameters.length) = some n)
def LkV (own : String) (idx : Nat) (y : MethodName) (q' : MD) (n : Nat) : Prop := Lk own idx y q' n ∧ Cond.instanceMethod y ∈ TBL ∧ Cond.selects y.cls y y ∈ TBL
def LkS (own : String) (idx : Nat) (y : MethodName) (q' : MD) (n : Nat) : Prop := Lk own idx y q' n ∧ Cond.static y ∈ TBL
theorem r_callR {H : Heap} {locs : List Loc} {ls : Array Slot} {b : Nat} {As rest stk : List Value} {y : MethodName} {q' : MD} {n idx : Nat} {res' : Option Int32 × Mem} (C : Cx E Λ q) (hl : lv_has ls q.2.2.1 lv) (hw : Wd E Λ σ H locs) (hL : LkV q.1 idx y q' n) (hM : Me E.1.2.1 E.2.2 Λ y q' σ (.ref b :: As) res')
    (hrc : ∃ cellB : Cell, H[b]? = some cellB ∧ cellB.vm.isStatics = false ∧ E.1.2.2.2.2.vm.findClass y.cls = some cellB.cls) (hroom : q'.2.2.2.2.1 + 1 ≤ q.2.2.2.2.1 ∧ 8 + (q'.2.2.1 + 11) + q'.2.2.2.2.2 ≤ q.2.2.2.2.2) (hn : As.length = n) (hs : stk = As.reverse ++ .ref b :: rest) (hcat : (rest.map fun v => v.category).sum ≤ 8) (hd : decode q.2.1 pc = .ok (.invokevirtual idx, 3)) :
    va_Run E.1.1 E.1.2.1 E.1.2.2.1 E.1.2.2.2.1 E.1.2.2.2.2 E.2.1.1 E.2.1.2.1 E.2.1.2.2.1 E.2.1.2.2.2.1 E.2.1.2.2.2.2 H locs 0 0 0 0 (F0 E.2.1.1 pc ls stk) rest (QR E.2.2 Λ res' (Value.ref b :: As).toArray) (AA E.2.2 Λ) := by
  obtain ⟨⟨hlk, hini, hcode, hdd⟩, hinst, hsel⟩ := hL
  have ht := C.2.2.2.2.2.1
  have hR := C.2.2.2.2.2.2.2.2.1
  have hp : PreV E.1.2.2.2.2 H y.cls b (va_Pc (.ref b :: As) (PW E.2.2 Λ σ)) As := ⟨pw_blind, hrc, fun U hU hW => ⟨rfl, pw_at C hw hU hW⟩⟩
  rcases hlk with h1 | ⟨h, h1⟩
  · exact va_runV ⟨C.1, C.2.1, C.2.2.2.1, C.2.2.2.2.1, ht⟩ hM ⟨callB_of n ht (gIn0 hcode) rfl rfl rfl (ht _ hini) (ht _ h1) hdd ⟨by rw [hR]; exact hroom.1, by rw [hR]; exact hroom.2⟩, ht _ hinst, ht _ hsel⟩ hp rfl hn hl.1 hs (lv_room hcat) hd ⟨by rw [hR]; exact Nat.le_refl 0, by rw [hR]; exact Nat.le_refl 0⟩
  · exact va_runVN ⟨C.1, C.2.1, C.2.2.2.1, C.2.2.2.2.1, ht⟩ hM ⟨va_cnB n ht (gIn0 hcode) rfl rfl rfl (C.2.2.2.2.2.2.2.2.2.1 _ h1) (ht _ hini) hdd ⟨by rw [hR]; exact hroom.1, by rw [hR]; exact hroom.2⟩, ht _ hinst, ht _ hsel⟩ hp rfl hn hl.1 hs (lv_room hcat) hd ⟨by rw [hR]; exact Nat.le_refl 0, by rw [hR]; exact Nat.le_refl 0⟩
theorem r_callV {i ci n idx : Nat} {As rest stk st' : List Value} {y : MethodName} {q' : MD} {res' : Option Int32 × Mem} {T : u_T} {N : Nat} (hL : LkV q.1 idx y q' n) (hM : Me E.1.2.1 E.2.2 Λ y q' σ (.ref (xa E i) :: As) res') (hN : i < Λ.1) (hK : Λ.2.1 i = ci) (hci : ci < 11) (hcl : vwCl[ci]? = some (y.cls, T, N)) (hroom : q'.2.2.2.2.1 + 1 ≤ q.2.2.2.2.1 ∧ 8 + (q'.2.2.1 + 11) + q'.2.2.2.2.2 ≤ q.2.2.2.2.2) (hn : As.length = n) (hs : stk = As.reverse ++ .ref (xa E i) :: rest) (hcat : (rest.map fun v => v.category).sum ≤ 8) (hd : decode q.2.1 pc = .ok (.invokevirtual idx, 3)) (hst : (res'.1.map Value.int).toList ++ rest = st') (kk : G E Λ q res'.2 (pc + 3) lv st' res) : G E Λ q σ pc lv stk res := by
  intro C ls H locs hl hw
  subst hst
  exact r_back C hl hw (r_callR C hl hw hL hM (va_recv C.2.2.2.2.2.2.1 hw.1 hcl ((wl_get hN).trans (by rw [cel_obj hK hci]))) hroom hn hs hcat hd) kk
theorem r_callT {j n idx : Nat} {As rest stk st' : List Value} {y : MethodName} {q' : MD} {res' : Option Int32 × Mem} (hL : LkV q.1 idx y q' n) (hM : Me E.1.2.1 E.2.2 Λ y q' σ (.ref (xs E j) :: As) res') (hj : j < nJS) (hcl : y.cls = "java/lang/String") (hroom : q'.2.2.2.2.1 + 1 ≤ q.2.2.2.2.1 ∧ 8 + (q'.2.2.1 + 11) + q'.2.2.2.2.2 ≤ q.2.2.2.2.2) (hn : As.length = n) (hs : stk = As.reverse ++ .ref (xs E j) :: rest) (hcat : (rest.map fun v => v.category).sum ≤ 8) (hd : decode q.2.1 pc = .ok (.invokevirtual idx, 3)) (hst : (res'.1.map Value.int).toList ++ rest = st') (kk : G E Λ q res'.2 (pc + 3) lv st' res) : G E Λ q σ pc lv stk res := by
  intro C ls H locs hl hw
  subst hst
  exact r_back C hl hw (r_callR C hl hw hL hM (by rw [hcl]; exact vk_recv C.2.2.2.2.2.2.2.2.2.2.2.1 hj hw.2) hroom hn hs hcat hd) kk
theorem r_callS {n idx : Nat} {As rest stk st' : List Value} {y : MethodName} {q' : MD} {res' : Option Int32 × Mem} (hL : LkS q.1 idx y q' n) (hM : Me E.1.2.1 E.2.2 Λ y q' σ As res') (hroom : q'.2.2.2.2.1 + 1 ≤ q.2.2.2.2.1 ∧ 8 + (q'.2.2.1 + 11) + q'.2.2.2.2.2 ≤ q.2.2.2.2.2) (hn : As.length = n) (hs : stk = As.reverse ++ rest) (hcat : (rest.map fun v => v.category).sum ≤ 8) (hd : decode q.2.1 pc = .ok (.invokestatic idx, 3)) (hst : (res'.1.map Value.int).toList ++ rest = st') (kk : G E Λ q res'.2 (pc + 3) lv st' res) : G E Λ q σ pc lv stk res := by
  intro C ls H locs hl hw
  subst hst
  obtain ⟨⟨hlk, hini, hcode, hdd⟩, hstat⟩ := hL
  have ht := C.2.2.2.2.2.1
  have hR := C.2.2.2.2.2.2.2.2.1
  have hp : PreS E.1.2.2.2.2 H (va_Pc As (PW E.2.2 Λ σ)) As := ⟨pw_blind, fun U hU hW => ⟨rfl, pw_at C hw hU hW⟩⟩
  refine r_back (avs := As.toArray) C hl hw ?_ kk
  rcases hlk with h1 | ⟨h, h1⟩
  · exact va_runS ⟨C.1, C.2.1, C.2.2.2.1, C.2.2.2.2.1, ht⟩ hM ⟨callB_of n ht (gIn0 hcode) rfl rfl rfl (ht _ hini) (ht _ h1) hdd ⟨by rw [hR]; exact hroom.1, by rw [hR]; exact hroom.2⟩, ht _ hstat⟩ hp rfl hn hl.1 hs (lv_room hcat) hd ⟨by rw [hR]; exact Nat.le_refl 0, by rw [hR]; exact Nat.le_refl 0⟩
  · exact va_runSN ⟨C.1, C.2.1, C.2.2.2.1, C.2.2.2.2.1, ht⟩ hM ⟨va_cnB n ht (gIn0 hcode) rfl rfl rfl (C.2.2.2.2.2.2.2.2.2.1 _ h1) (ht _ hini) hdd ⟨by rw [hR]; exact hroom.1, by rw [hR]; exact hroom.2⟩, ht _ hstat, trivial⟩ hp rfl hn hl.1 hs (lv_room hcat) hd ⟨by rw [hR]; exact Nat.le_refl 0, by rw [hR]; exact Nat.le_refl 0⟩
theorem r_min {x y : Int32} {index : Nat} (h1 : Cond.methodLink q.1 index Lib.Math.min.name ∈ TBL) (h2 : Cond.static Lib.Math.min.name ∈ TBL) (h3 : Cond.initialized "java/lang/Math" ∈ TBL) (h4 : Cond.code Lib.Math.min.name Lib.Math.min.code 2 (some .int) ∈ TBL) (hroom : 1 ≤ q.2.2.2.2.1 ∧ (st.map fun v => v.category).sum + 13 ≤ q.2.2.2.2.2) (hd : decode q.2.1 pc = .ok (.invokestatic index, 3)) (kk : G E Λ q σ (pc + 3) lv (.int (if y < x then y else x) :: st) res) : G E Λ q σ pc lv (.int y :: .int x :: st) res := fun C ls H locs hl hw =>
  va_mmin C.1 C.2.1 (C.2.2.2.1.trans hl.1.symm) C.2.2.2.2.1 (C.2.2.2.2.2.1 _ h1) (C.2.2.2.2.2.1 _ h2) (C.2.2.2.2.2.1 _ h3) (C.2.2.2.2.2.1 _ h4) (by rw [C.2.2.2.2.2.2.2.2.1]; exact hroom.1) (by rw [C.2.2.2.2.2.2.2.2.1]; exact hroom.2) (Nat.zero_le _) (Nat.zero_le _) hd (kk C ls H locs hl hw)
theorem r_max {x y : Int32} {index : Nat} (h1 : Cond.methodLink q.1 index Lib.Math.max.name ∈ TBL) (h2 : Cond.static Lib.Math.max.name ∈ TBL) (h3 : Cond.initialized "java/lang/Math" ∈ TBL) (h4 : Cond.code Lib.Math.max.name Lib.Math.max.code 2 (some .int) ∈ TBL) (hroom : 1 ≤ q.2.2.2.2.1 ∧ (st.map fun v => v.category).sum + 13 ≤ q.2.2.2.2.2) (hd : decode q.2.1 pc = .ok (.invokestatic index, 3)) (kk : G E Λ q σ (pc + 3) lv (.int (if x < y then y else x) :: st) res) : G E Λ q σ pc lv (.int y :: .int x :: st) res := fun C ls H locs hl hw =>
  va_mmax C.1 C.2.1 (C.2.2.2.1.trans hl.1.symm) C.2.2.2.2.1 (C.2.2.2.2.2.1 _ h1) (C.2.2.2.2.2.1 _ h2) (C.2.2.2.2.2.1 _ h3) (C.2.2.2.2.2.1 _ h4) (by rw [C.2.2.2.2.2.2.2.2.1]; exact hroom.1) (by rw [C.2.2.2.2.2.2.2.2.1]; exact hroom.2) (Nat.zero_le _) (Nat.zero_le _) hd (kk C ls H locs hl hw)
end ROWS
def bm {α : Type} (m : Mem) (k : Mem → α) : α := k m
def bi {α : Type} (x : Int32) (k : Int32 → α) : α := k x
def bo {α β : Type} (x : Option α) (k : α → Option β) : Option β := match x with
  | none => none
  | some z => k z
theorem bm_k {α : Type} {m : Mem} {k : Mem → α} {Z : α} {P : Mem → Prop} (h : bm m k = Z) (kk : ∀ m', m' = m → k m' = Z → P m') : P m := kk m rfl h
theorem bi_k {α : Type} {x : Int32} {k : Int32 → α} {Z : α} {P : Int32 → Prop} (h : bi x k = Z) (kk : ∀ x', x' = x → k x' = Z → P x') : P x := kk x rfl h
theorem bo_k {α β : Type} {x : Option α} {k : α → Option β} {Z : β} {P : Prop} (h : bo x k = some Z) (kk : ∀ z, x = some z → k z = some Z → P) : P := by
  cases x with
  | none => cases h
  | some z => exact kk z rfl h
