/-! ===== a small logic over the machine: values, memory, the world as one row of cells ===== -/
abbrev AV : Type := Int ⊕ Nat
abbrev Mem : Type := Nat → Nat → Int
abbrev inR (v : Int) : Prop := -2147483648 ≤ v ∧ v ≤ 2147483647
def mu (σ : Mem) (k j : Nat) (v : Int) : Mem := fun a b => if a = k ∧ b = j then v else σ a b
def cv (adr : Nat → Nat) : AV → Value
  | .inl v => .int (Int32.ofInt v)
  | .inr k => .ref (adr k)
def okV : AV → Prop
  | .inl v => inR v
  | .inr _ => True
theorem ofI_toInt {v : Int} (h : inR v) : (Int32.ofInt v).toInt = v := Int32.toInt_ofInt_of_le h.1 (by omega)
theorem ofI_lt {a b : Int} (ha : inR a) (hb : inR b) : Int32.ofInt a < Int32.ofInt b ↔ a < b := by
  rw [Int32.lt_iff_toInt_lt, ofI_toInt ha, ofI_toInt hb]
theorem ofI_le {a b : Int} (ha : inR a) (hb : inR b) : Int32.ofInt a ≤ Int32.ofInt b ↔ a ≤ b := by
  rw [Int32.le_iff_toInt_le, ofI_toInt ha, ofI_toInt hb]
theorem ofI_eq {a b : Int} (ha : inR a) (hb : inR b) : Int32.ofInt a = Int32.ofInt b ↔ a = b := by
  rw [← Int32.toInt_inj, ofI_toInt ha, ofI_toInt hb]
theorem ofI_0 : Int32.ofInt 0 = 0 := rfl
theorem inR_toInt (x : Int32) : inR x.toInt := ⟨by have := x.le_toInt; omega, by have := x.toInt_lt; omega⟩
theorem ofI_clamp {v : Int} (h : inR v) : (Int32.ofInt v).toNatClampNeg = v.toNat := Int32.toNatClampNeg_ofInt_of_le h.1 (by omega)
theorem ofI_in {v : Int} {n : Nat} (h : inR v) (h0 : 0 ≤ v) (hn : v < (n : Int)) : vp_in (Int32.ofInt v) n := by
  rw [vp_in_iff, ofI_toInt h]; exact ⟨h0, hn⟩
/-- the bit operations, on whole numbers -/
def iand (a b : Int) : Int := (Int32.ofInt a &&& Int32.ofInt b).toInt
def ior (a b : Int) : Int := (Int32.ofInt a ||| Int32.ofInt b).toInt
def ishl (a b : Int) : Int := (Int32.ofInt a <<< (Int32.ofInt b &&& 31)).toInt
def ishr (a b : Int) : Int := (Int32.ofInt a >>> (Int32.ofInt b &&& 31)).toInt
/-! the world: the kind and length of each cell, where its references go -/
def NC : Nat := 95
def shpL : List (Nat × Nat) := [(10, 10), (2, 9), (7, 1), (12, 36), (7, 1), (12, 6), (7, 1), (12, 36), (7, 1), (12, 6), (7, 1), (12, 36), (7, 1), (12, 36), (9, 8), (7, 1), (12, 100), (7, 1), (12, 5), (7, 1), (12, 6), (7, 1), (12, 6), (7, 1), (12, 6), (7, 1), (12, 6), (3, 2), (4, 4), (7, 1), (12, 25), (7, 1), (12, 36), (0, 7), (8, 2), (7, 1), (12, 5), (8, 2), (7, 1), (12, 5), (1, 6), (8, 2), (7, 1), (12, 5), (8, 2), (7, 1), (12, 5), (5, 3), (8, 2), (7, 1), (12, 5), (6, 11), (8, 2), (7, 1), (12, 5), (8, 2), (7, 1), (12, 5), (8, 2), (7, 1), (12, 5), (7, 1), (12, 2880), (7, 1), (12, 7776), (7, 1), (12, 4), (8, 2), (7, 1), (12, 5), (8, 2), (7, 1), (12, 5), (11, 30), (12, 36), (13, 36), (12, 6), (12, 5), (12, 100), (12, 5), (12, 6), (12, 6), (13, 6), (12, 6), (12, 36), (12, 36), (12, 36), (12, 6), (12, 5), (12, 15), (12, 10), (12, 7776), (12, 720), (12, 2880), (12, 5)]
def rfsL : List (List (Option Nat)) := [[some 1, some 14, some 27, some 28, some 33, some 40, some 47, some 51, some 67, some 70], [some 2, some 4, some 6, some 8, some 10, some 12, none, none, none], [some 3], [], [some 5], [], [some 7], [], [some 9], [], [some 11], [], [some 13], [], [some 15, some 17, some 19, some 21, some 23, some 25, none, none], [some 16], [], [some 18], [], [some 20], [], [some 22], [], [some 24], [], [some 26], [], [some 1, some 14], [some 1, some 14, some 29, some 31], [some 30], [], [some 32], [], [some 1, some 14, some 27, some 34, some 37, none, none], [some 35, none], [some 36], [], [some 38, none], [some 39], [], [some 1, some 27, some 41, some 44, none, none], [some 42, none], [some 43], [], [some 45, none], [some 46], [], [some 1, some 14, some 48], [some 49, none], [some 50], [], [some 1, some 14, some 27, some 52, some 55, some 58, some 61, some 63, some 65, none, none], [some 53, none], [some 54], [], [some 56, none], [some 57], [], [some 59, none], [some 60], [], [some 62], [], [some 64], [], [some 66], [], [some 68, none], [some 69], [], [some 71, none], [some 72], [], [some 74, some 75, none, some 76, none, none, some 77, some 78, some 79, none, some 80, some 81, some 82, some 83, some 84, some 85, some 86, some 87, some 88, none, none, some 89, some 90, none, none, some 91, none, some 92, some 93, some 94], [], [], [], [], [], [], [], [], [], [], [], [], [], [], [], [], [], [], [], [], []]
def shp (k : Nat) : Nat × Nat := shpL.getD k (99, 0)
def rfs (k j : Nat) : Option Nat := (rfsL.getD k []).getD j none
def fv (adr : Nat → Nat) (σ : Mem) (k j : Nat) : Value := match rfs k j with
  | some r => .ref (adr r)
  | none => .int (Int32.ofInt (σ k j))
def cellE (cyI cyZ : ClassId) (adr : Nat → Nat) (σ : Mem) (k : Nat) : va_E :=
  if (shp k).1 < 12 then .inr ((shp k).1, (List.range (shp k).2).map (fv adr σ k)) else .inl (if (shp k).1 = 12 then cyI else cyZ, (shp k).2, .inl (fun j => Int32.ofInt (σ k j)))
def wsOf (cyI cyZ : ClassId) (adr : Nat → Nat) (σ : Mem) : va_W := (List.range NC).map (fun k => (adr k, cellE cyI cyZ adr σ k))
abbrev tysOf (cyI cyZ : ClassId) : List (ClassId × FieldType) := [(cyI, .int), (cyZ, .boolean)]
def Rep (D : va_G) (cyI cyZ : ClassId) (adr : Nat → Nat) (σ : Mem) (H : Heap) : Prop := va_P D vwCl (wsOf cyI cyZ adr σ) H ∧ ∀ k j, inR (σ k j)
def Dj (A : Nat → Prop) (adr : Nat → Nat) : Prop := (∀ i j, i < NC → j < NC → adr i = adr j → i = j) ∧ ∀ k, k < NC → A (adr k)
theorem ws_at {cyI cyZ : ClassId} {adr : Nat → Nat} {σ : Mem} {k : Nat} (h : k < NC) : (wsOf cyI cyZ adr σ)[k]? = some (adr k, cellE cyI cyZ adr σ k) := by
  simp [wsOf, h]
theorem ws_at_inv {cyI cyZ : ClassId} {adr : Nat → Nat} {σ : Mem} {k : Nat} {q : Nat × va_E} (h : (wsOf cyI cyZ adr σ)[k]? = some q) : k < NC ∧ q = (adr k, cellE cyI cyZ adr σ k) := by
  have hl := (List.getElem?_eq_some_iff.mp h).1
  have hk : k < NC := by simpa [wsOf] using hl
  rw [ws_at hk] at h
  exact ⟨hk, (Option.some.inj h).symm⟩
theorem Dj.D {A : Nat → Prop} {adr : Nat → Nat} (h : Dj A adr) (cyI cyZ : ClassId) (σ : Mem) : va_D A (wsOf cyI cyZ adr σ) := by
  refine ⟨fun i j p q hi hj hpq => ?_, fun k q hk => ?_⟩
  · obtain ⟨h1, rfl⟩ := ws_at_inv hi
    obtain ⟨h2, rfl⟩ := ws_at_inv hj
    exact h.1 i j h1 h2 hpq
  · obtain ⟨h1, rfl⟩ := ws_at_inv hk
    exact h.2 k h1
theorem ws_set {cyI cyZ : ClassId} {adr : Nat → Nat} {σ σ' : Mem} {k : Nat} (hk : k < NC) (ho : ∀ a, a ≠ k → ∀ b, σ' a b = σ a b) : (wsOf cyI cyZ adr σ).set k (adr k, cellE cyI cyZ adr σ' k) = wsOf cyI cyZ adr σ' := by
  apply List.ext_getElem?
  intro i
  by_cases h : i = k
  · subst h
    rw [List.getElem?_set_self (by simpa [wsOf] using hk), ws_at hk]
  · rw [List.getElem?_set_ne (Ne.symm h)]
    by_cases hi : i < NC
    · rw [ws_at hi, ws_at hi]
      have e : cellE cyI cyZ adr σ i = cellE cyI cyZ adr σ' i := by
        unfold cellE
        have e1 : fv adr σ i = fv adr σ' i := by
          funext j
          unfold fv
          rw [ho i h j]
        have e2 : σ i = σ' i := by funext j; exact (ho i h j).symm
        rw [e1, e2]
      rw [e]
    · have n1 : ∀ σ : Mem, (wsOf cyI cyZ adr σ)[i]? = none := fun σ => by
        rw [List.getElem?_eq_none_iff]
        simp [wsOf]
        omega
      rw [n1, n1]
theorem mu_ne {σ : Mem} {k j : Nat} {v : Int} (a : Nat) (h : a ≠ k) (b : Nat) : mu σ k j v a b = σ a b := by
  unfold mu
  rw [if_neg (fun q => h q.1)]
theorem mu_inR {σ : Mem} {k j : Nat} {v : Int} (h : ∀ a b, inR (σ a b)) (hv : inR v) : ∀ a b, inR (mu σ k j v a b) := by
  intro a b
  unfold mu
  split
  · exact hv
  · exact h a b
/-- the tables' words that a called method may keep -/
def TB : List Cond := lw_tbl.filter goodWord
theorem tb_of (i : Nat) {w : Cond} (h : lw_tbl[i]? = some w) (hg : goodWord w = true) : w ∈ TB := List.mem_filter.mpr ⟨List.mem_of_getElem? h, hg⟩
theorem tb_good {ws : List Cond} (h : ∀ w ∈ ws, w ∈ TB) : GoodIn TB ws := fun w hw => ⟨h w hw, good_of_word (List.mem_filter.mp (h w hw)).2⟩
/-- the one link to a private method of a nest mate outside constructors -/
def nwCell : Cond := .methodLinkNest "ShopsOnFloor$Ground" 66 ⟨"ShopsOnFloor", "cellAt", "(II)I"⟩ "ShopsOnFloor"
def NW (U : State) : Prop := va_Nw nwCell U
/-- a method: name, code, locals, return type, kind of return (0 int, 1 none, 2 reference, 3 boolean), frames and locals of its room -/
abbrev MD : Type := MethodName × ByteArray × Nat × Option FieldType × Nat × Nat × Nat
abbrev mY (d : MD) : MethodName := d.1
abbrev mC (d : MD) : ByteArray := d.2.1
abbrev mN (d : MD) : Nat := d.2.2.1
abbrev mR (d : MD) : Option FieldType := d.2.2.2.1
abbrev mK (d : MD) : Nat := d.2.2.2.2.1
abbrev mF (d : MD) : Nat := d.2.2.2.2.2.1
abbrev mL (d : MD) : Nat := d.2.2.2.2.2.2
def LH (adr : Nat → Nat) (nL : Nat) (ls : List (Option AV)) (lsA : Array Slot) : Prop := lsA.size = nL ∧ lv_wf lsA ∧ ls.length = nL ∧ ∀ (i : Nat) (v : AV), ls[i]? = some (some v) → lsA[i]? = some (.val (cv adr v)) ∧ okV v
abbrev XS : Type := Option (Nat × (Nat → Int))
/-- what holds all the way through a method's body -/
def CX (xs : XS) (d : MD) (p : Program) (l : Launch) (e : Env) (R : Room) (s : State) (m : MethodId) (args : Array Value) (meth : Method) (c : Code) (D : va_G) (cyI cyZ : ClassId) (adr : Nat → Nat) (A : Nat → Prop) (cells slots : Nat) : Prop :=
  p.tables.exec = Jvm.exec ∧ c.code = mC d ∧ c.maxLocals = mN d ∧ s.vm.findClass (mY d).cls = some m.cls ∧ (∀ w ∈ TB, w.before args s = true) ∧ NW s ∧ va_K D vwCl (tysOf cyI cyZ) s ∧ Dj A adr ∧ (∀ q, s.heap.size ≤ q → A q) ∧ mF d ≤ R.frames ∧ mL d ≤ R.locals ∧ cells ≤ R.cells ∧ slots ≤ R.slots ∧
  ∀ L f, xs = some (L, f) → va_X (adr NC) L (fun j => Int32.ofInt (f j)) s s.heap ∧ adr NC < s.heap.size ∧ ¬ A (adr NC) ∧ L < 2147483648 ∧ ∀ j, inR (f j)
def retOK (d : MD) (pc : Nat) (st : List AV) (v : Int) : Prop := match mK d with
  | 0 => decode (mC d) pc = .ok (.ireturn, 1) ∧ st = [.inl v] ∧ inR v
  | 1 => decode (mC d) pc = .ok (.return_, 1) ∧ st = [] ∧ v = 0
  | 2 => decode (mC d) pc = .ok (.areturn, 1) ∧ ∃ k : Nat, st = [.inr k] ∧ v = (k : Int)
  | _ => decode (mC d) pc = .ok (.ireturn, 1) ∧ st = [.inl v] ∧ (v = 0 ∨ v = 1)
def RT (d : MD) (p : Program) (l : Launch) (e : Env) (R : Room) (s : State) (m : MethodId) (args : Array Value) (below : List Frame) (meth : Method) (c : Code) (D : va_G) (cyI cyZ : ClassId) (adr : Nat → Nat) (A : Nat → Prop) (cells slots : Nat) (QF : State → Prop) (Q : Int → Mem → Prop) : Prop :=
  ∀ (pc : Nat) (H : Heap) (locs : List Loc) (lsA : Array Slot) (st : List AV) (v : Int) (σ : Mem), retOK d pc st v → Rep D cyI cyZ adr σ H → va_S A s.heap H locs → Q v σ → W p l e R s m args below meth c H locs cells slots QF (F0 m pc lsA (st.map (cv adr)))
/-- from this point of the body, with these locals, this stack and this memory, the method ends, and its answer and the memory are as Q says -/
def GO (xs : XS) (d : MD) (pc : Nat) (ls : List (Option AV)) (st : List AV) (σ : Mem) (Q : Int → Mem → Prop) : Prop :=
  ∀ (p : Program) (l : Launch) (e : Env) (R : Room) (s : State) (m : MethodId) (args : Array Value) (below : List Frame) (meth : Method) (c : Code) (D : va_G) (cyI cyZ : ClassId) (adr : Nat → Nat) (A : Nat → Prop) (cells slots : Nat) (QF : State → Prop),
    CX xs d p l e R s m args meth c D cyI cyZ adr A cells slots → RT d p l e R s m args below meth c D cyI cyZ adr A cells slots QF Q →
    ∀ (H : Heap) (locs : List Loc) (lsA : Array Slot), Rep D cyI cyZ adr σ H → va_S A s.heap H locs → LH adr (mN d) ls lsA → (∀ v ∈ st, okV v) → W p l e R s m args below meth c H locs cells slots QF (F0 m pc lsA (st.map (cv adr)))
section OPS
variable {xs : XS} {d : MD} {pc : Nat} {ls : List (Option AV)} {st : List AV} {σ : Mem} {Q : Int → Mem → Prop}
theorem LH.at' {adr : Nat → Nat} {nL : Nat} {lsA : Array Slot} (h : LH adr nL ls lsA) {i : Nat} {v : AV} (hl : ls[i]? = some (some v)) : lsA[i]? = some (.val (cv adr v)) := (h.2.2.2 i v hl).1
theorem LH.ok {adr : Nat → Nat} {nL : Nat} {lsA : Array Slot} (h : LH adr nL ls lsA) {i : Nat} {v : AV} (hl : ls[i]? = some (some v)) : okV v := (h.2.2.2 i v hl).2
def lh_l (adr : Nat → Nat) (ls : List (Option AV)) : List (Nat × Value) := (List.range ls.length).filterMap (fun i => match ls[i]? with
  | some (some v) => some (i, cv adr v)
  | _ => none)
theorem lh_mem {adr : Nat → Nat} {q : Nat × Value} : q ∈ lh_l adr ls ↔ ∃ v, ls[q.1]? = some (some v) ∧ q.2 = cv adr v := by
  unfold lh_l
  rw [List.mem_filterMap]
  constructor
  · rintro ⟨i, hi, h⟩
    split at h
    · rename_i v hv
      cases h
      exact ⟨v, hv, rfl⟩
    · cases h
  · rintro ⟨v, hv, h2⟩
    refine ⟨q.1, List.mem_range.mpr (List.getElem?_eq_some_iff.mp hv).1, ?_⟩
    rw [hv]
    show some (q.1, cv adr v) = some q
    rw [← h2]
theorem LH.has {adr : Nat → Nat} {nL : Nat} {lsA : Array Slot} (h : LH adr nL ls lsA) : lv_has lsA nL (lh_l adr ls) := by
  refine ⟨h.1, h.2.1, fun q hq => ?_⟩
  obtain ⟨v, h1, h2⟩ := lh_mem.mp hq
  rw [h2]
  exact (h.2.2.2 _ _ h1).1
theorem cv_cat (adr : Nat → Nat) (v : AV) : (cv adr v).category = 1 := by
  cases v <;> rfl
theorem LH.set {adr : Nat → Nat} {nL : Nat} {lsA lsB : Array Slot} {i : Nat} {v : AV} (h : LH adr nL ls lsA) (hi : i < nL) (hv : okV v)
    (hB : lv_has lsB nL ((i, cv adr v) :: (lh_l adr ls).filter (fun q => !(q.1 == i) && !(q.1 + 1 == i && q.2.category == 2)))) : LH adr nL (ls.set i (some v)) lsB := by
  refine ⟨hB.1, hB.2.1, by rw [List.length_set]; exact h.2.2.1, fun j w hj => ?_⟩
  by_cases e : j = i
  · subst e
    rw [List.getElem?_set_self (by rw [h.2.2.1]; exact hi)] at hj
    cases hj
    exact ⟨hB.2.2 (j, cv adr v) List.mem_cons_self, hv⟩
  · rw [List.getElem?_set_ne (Ne.symm e)] at hj
    refine ⟨hB.2.2 (j, cv adr w) (List.mem_cons_of_mem _ (List.mem_filter.mpr ⟨lh_mem.mpr ⟨w, hj, rfl⟩, ?_⟩)), h.ok hj⟩
    simp [e, cv_cat]
theorem okcons {v : AV} (h : okV v) (hs : ∀ v ∈ st, okV v) : ∀ w ∈ v :: st, okV w := List.forall_mem_cons.mpr ⟨h, hs⟩
-- constants and locals
theorem g_iconst {n : Int} (hd : decode (mC d) pc = .ok (.iconst n, 1)) (hn : inR n) (k : GO xs d (pc + 1) ls (.inl n :: st) σ Q) : GO xs d pc ls st σ Q := by
  intro p l e R s m args below meth c D cyI cyZ adr A cells slots QF C RT0 H locs lsA hR hS hL hst
  exact lv_iconst (v := Int32.ofInt n) C.1 C.2.1 hd rfl (k p l e R s m args below meth c D cyI cyZ adr A cells slots QF C RT0 H locs lsA hR hS hL (okcons hn hst))
theorem g_bipush {n : Int} (hd : decode (mC d) pc = .ok (.bipush n, 2)) (hn : inR n) (he : (Int8.ofInt n).toInt32 = Int32.ofInt n) (k : GO xs d (pc + 2) ls (.inl n :: st) σ Q) : GO xs d pc ls st σ Q := by
  intro p l e R s m args below meth c D cyI cyZ adr A cells slots QF C RT0 H locs lsA hR hS hL hst
  exact lv_bipush (v := Int32.ofInt n) C.1 C.2.1 hd he (k p l e R s m args below meth c D cyI cyZ adr A cells slots QF C RT0 H locs lsA hR hS hL (okcons hn hst))
theorem g_sipush {n : Int} (hd : decode (mC d) pc = .ok (.sipush n, 3)) (hn : inR n) (he : (Int16.ofInt n).toInt32 = Int32.ofInt n) (k : GO xs d (pc + 3) ls (.inl n :: st) σ Q) : GO xs d pc ls st σ Q := by
  intro p l e R s m args below meth c D cyI cyZ adr A cells slots QF C RT0 H locs lsA hR hS hL hst
  exact lv_sipush (v := Int32.ofInt n) C.1 C.2.1 hd he (k p l e R s m args below meth c D cyI cyZ adr A cells slots QF C RT0 H locs lsA hR hS hL (okcons hn hst))
theorem g_ldc {i : Nat} {v : Int32} {n : Int} (hd : decode (mC d) pc = .ok (.ldc i, 2)) (hc : Cond.constant (mY d).cls i v ∈ TB) (hv : v = Int32.ofInt n) (hn : inR n) (k : GO xs d (pc + 2) ls (.inl n :: st) σ Q) : GO xs d pc ls st σ Q := by
  intro p l e R s m args below meth c D cyI cyZ adr A cells slots QF C RT0 H locs lsA hR hS hL hst
  subst hv
  exact lv_ldc C.1 C.2.1 C.2.2.2.1 (C.2.2.2.2.1 _ hc) hd (k p l e R s m args below meth c D cyI cyZ adr A cells slots QF C RT0 H locs lsA hR hS hL (okcons hn hst))
theorem g_iload {i : Nat} {v : Int} (hd : decode (mC d) pc = .ok (.iload i, 2)) (hl : ls[i]? = some (some (.inl v))) (k : GO xs d (pc + 2) ls (.inl v :: st) σ Q) : GO xs d pc ls st σ Q := by
  intro p l e R s m args below meth c D cyI cyZ adr A cells slots QF C RT0 H locs lsA hR hS hL hst
  exact lv_iload C.1 C.2.1 hd (hL.at' hl) (k p l e R s m args below meth c D cyI cyZ adr A cells slots QF C RT0 H locs lsA hR hS hL (okcons (hL.ok hl) hst))
theorem g_iload_n {i : Nat} {i4 : Fin 4} {v : Int} (hd : decode (mC d) pc = .ok (.iload_n i4, 1)) (hi : (i4 : Nat) = i) (hl : ls[i]? = some (some (.inl v))) (k : GO xs d (pc + 1) ls (.inl v :: st) σ Q) : GO xs d pc ls st σ Q := by
  intro p l e R s m args below meth c D cyI cyZ adr A cells slots QF C RT0 H locs lsA hR hS hL hst
  exact lv_iload_n C.1 C.2.1 hd hi (hL.at' hl) (k p l e R s m args below meth c D cyI cyZ adr A cells slots QF C RT0 H locs lsA hR hS hL (okcons (hL.ok hl) hst))
theorem g_aload {i : Nat} {r : Nat} (hd : decode (mC d) pc = .ok (.aload i, 2)) (hl : ls[i]? = some (some (.inr r))) (k : GO xs d (pc + 2) ls (.inr r :: st) σ Q) : GO xs d pc ls st σ Q := by
  intro p l e R s m args below meth c D cyI cyZ adr A cells slots QF C RT0 H locs lsA hR hS hL hst
  exact lv_aload C.1 C.2.1 hd (hL.at' hl) (k p l e R s m args below meth c D cyI cyZ adr A cells slots QF C RT0 H locs lsA hR hS hL (okcons trivial hst))
theorem g_aload_n {i : Nat} {i4 : Fin 4} {r : Nat} (hd : decode (mC d) pc = .ok (.aload_n i4, 1)) (hi : (i4 : Nat) = i) (hl : ls[i]? = some (some (.inr r))) (k : GO xs d (pc + 1) ls (.inr r :: st) σ Q) : GO xs d pc ls st σ Q := by
  intro p l e R s m args below meth c D cyI cyZ adr A cells slots QF C RT0 H locs lsA hR hS hL hst
  exact lv_aload_n C.1 C.2.1 hd hi (hL.at' hl) (k p l e R s m args below meth c D cyI cyZ adr A cells slots QF C RT0 H locs lsA hR hS hL (okcons trivial hst))
theorem g_istore {i : Nat} {v : Int} {ls' : List (Option AV)} (hd : decode (mC d) pc = .ok (.istore i, 2)) (hi : i < mN d) (he : ls.set i (some (.inl v)) = ls') (k : GO xs d (pc + 2) ls' st σ Q) : GO xs d pc ls (.inl v :: st) σ Q := by
  intro p l e R s m args below meth c D cyI cyZ adr A cells slots QF C RT0 H locs lsA hR hS hL hst
  subst he
  have hv := List.forall_mem_cons.mp hst
  exact lv_istore C.1 C.2.1 hd hL.has hi rfl (fun lsB hB => k p l e R s m args below meth c D cyI cyZ adr A cells slots QF C RT0 H locs lsB hR hS (hL.set (v := .inl v) hi hv.1 hB) hv.2)
theorem g_istore_n {i : Nat} {i4 : Fin 4} {v : Int} {ls' : List (Option AV)} (hd : decode (mC d) pc = .ok (.istore_n i4, 1)) (h4 : (i4 : Nat) = i) (hi : i < mN d) (he : ls.set i (some (.inl v)) = ls') (k : GO xs d (pc + 1) ls' st σ Q) : GO xs d pc ls (.inl v :: st) σ Q := by
  intro p l e R s m args below meth c D cyI cyZ adr A cells slots QF C RT0 H locs lsA hR hS hL hst
  subst he
  have hv := List.forall_mem_cons.mp hst
  exact lv_istore_n C.1 C.2.1 hd h4 hL.has hi rfl (fun lsB hB => k p l e R s m args below meth c D cyI cyZ adr A cells slots QF C RT0 H locs lsB hR hS (hL.set (v := .inl v) hi hv.1 hB) hv.2)
theorem g_iinc {i : Nat} {n v : Int} {ls' : List (Option AV)} (hd : decode (mC d) pc = .ok (.iinc i n, 3)) (hi : i < mN d) (hl : ls[i]? = some (some (.inl v))) (hr : inR (v + n)) (he : ls.set i (some (.inl (v + n))) = ls') (k : GO xs d (pc + 3) ls' st σ Q) : GO xs d pc ls st σ Q := by
  intro p l e R s m args below meth c D cyI cyZ adr A cells slots QF C RT0 H locs lsA hR hS hL hst
  subst he
  have hm : (i, Value.int (Int32.ofInt v)) ∈ lh_l adr ls := lh_mem.mpr ⟨.inl v, hl, rfl⟩
  obtain ⟨j, hj⟩ := List.getElem?_of_mem hm
  exact lv_iinc (x := Int32.ofInt v) (v := Int32.ofInt (v + n)) C.1 C.2.1 hd hL.has hj (Int32.ofInt_add v n).symm hi rfl (fun lsB hB => k p l e R s m args below meth c D cyI cyZ adr A cells slots QF C RT0 H locs lsB hR hS (hL.set (v := .inl (v + n)) hi hr hB) hst)
theorem g_dup {v : AV} (hd : decode (mC d) pc = .ok (.dup, 1)) (k : GO xs d (pc + 1) ls (v :: v :: st) σ Q) : GO xs d pc ls (v :: st) σ Q := by
  intro p l e R s m args below meth c D cyI cyZ adr A cells slots QF C RT0 H locs lsA hR hS hL hst
  have hv := List.forall_mem_cons.mp hst
  exact lv_dup C.1 C.2.1 hd (cv_cat adr v) (k p l e R s m args below meth c D cyI cyZ adr A cells slots QF C RT0 H locs lsA hR hS hL (okcons hv.1 hst))
theorem g_pop {v : AV} (hd : decode (mC d) pc = .ok (.pop, 1)) (k : GO xs d (pc + 1) ls st σ Q) : GO xs d pc ls (v :: st) σ Q := by
  intro p l e R s m args below meth c D cyI cyZ adr A cells slots QF C RT0 H locs lsA hR hS hL hst
  have hv := List.forall_mem_cons.mp hst
  exact lv_pop C.1 C.2.1 hd (cv_cat adr v) (k p l e R s m args below meth c D cyI cyZ adr A cells slots QF C RT0 H locs lsA hR hS hL hv.2)
-- arithmetic
theorem g_iadd {a b : Int} (hd : decode (mC d) pc = .ok (.iadd, 1)) (hr : inR (a + b)) (k : GO xs d (pc + 1) ls (.inl (a + b) :: st) σ Q) : GO xs d pc ls (.inl b :: .inl a :: st) σ Q := by
  intro p l e R s m args below meth c D cyI cyZ adr A cells slots QF C RT0 H locs lsA hR hS hL hst
  have hv := List.forall_mem_cons.mp (List.forall_mem_cons.mp hst).2
  have kk := k p l e R s m args below meth c D cyI cyZ adr A cells slots QF C RT0 H locs lsA hR hS hL (okcons hr hv.2)
  refine lv_iadd C.1 C.2.1 hd ?_
  rw [← Int32.ofInt_add]
  exact kk
theorem g_isub {a b : Int} (hd : decode (mC d) pc = .ok (.isub, 1)) (hr : inR (a - b)) (k : GO xs d (pc + 1) ls (.inl (a - b) :: st) σ Q) : GO xs d pc ls (.inl b :: .inl a :: st) σ Q := by
  intro p l e R s m args below meth c D cyI cyZ adr A cells slots QF C RT0 H locs lsA hR hS hL hst
  have hv := List.forall_mem_cons.mp (List.forall_mem_cons.mp hst).2
  have kk := k p l e R s m args below meth c D cyI cyZ adr A cells slots QF C RT0 H locs lsA hR hS hL (okcons hr hv.2)
  refine lv_isub C.1 C.2.1 hd ?_
  rw [← Int32.ofInt_sub]
  exact kk
theorem g_imul {a b : Int} (hd : decode (mC d) pc = .ok (.imul, 1)) (hr : inR (a * b)) (k : GO xs d (pc + 1) ls (.inl (a * b) :: st) σ Q) : GO xs d pc ls (.inl b :: .inl a :: st) σ Q := by
  intro p l e R s m args below meth c D cyI cyZ adr A cells slots QF C RT0 H locs lsA hR hS hL hst
  have hv := List.forall_mem_cons.mp (List.forall_mem_cons.mp hst).2
  have kk := k p l e R s m args below meth c D cyI cyZ adr A cells slots QF C RT0 H locs lsA hR hS hL (okcons hr hv.2)
  refine lv_imul C.1 C.2.1 hd ?_
  rw [← Int32.ofInt_mul]
  exact kk
theorem tdiv_inR {a b : Int} (ha : inR a) (hb : 0 < b) : inR (a.tdiv b) := by
  have h1 := Int.natAbs_tdiv_le_natAbs a b
  have h2 : 0 ≤ a → 0 ≤ a.tdiv b := fun h => Int.tdiv_nonneg h (by omega)
  constructor
  · rcases Int.le_total 0 a with h | h
    · have := h2 h; omega
    · omega
  · rcases Int.le_total 0 a with h | h
    · omega
    · have h3 : a.tdiv b ≤ 0 := by
        have := Int.tdiv_nonneg (a := -a) (b := b) (by omega) (by omega)
        rw [Int.neg_tdiv] at this
        omega
      omega
theorem g_idiv {a b : Int} (hd : decode (mC d) pc = .ok (.idiv, 1)) (hb0 : 0 < b) (k : GO xs d (pc + 1) ls (.inl (a.tdiv b) :: st) σ Q) : GO xs d pc ls (.inl b :: .inl a :: st) σ Q := by
  intro p l e R s m args below meth c D cyI cyZ adr A cells slots QF C RT0 H locs lsA hR hS hL hst
  have hv := List.forall_mem_cons.mp hst
  have hv2 := List.forall_mem_cons.mp hv.2
  have hb : inR b := hv.1
  have ha : inR a := hv2.1
  have kk := k p l e R s m args below meth c D cyI cyZ adr A cells slots QF C RT0 H locs lsA hR hS hL (okcons (tdiv_inR ha hb0) hv2.2)
  refine lv_idiv C.1 C.2.1 hd (fun h => ?_) ?_
  · rw [← ofI_0, ofI_eq hb (by decide)] at h
    omega
  · rw [← Int32.ofInt_tdiv (a := a) (b := b) ha.1 ha.2 hb.1 hb.2]
    exact kk
theorem tmod_inR {a b : Int} (hb : inR b) (hb0 : 0 < b) : inR (a.tmod b) := by
  have h1 := Int.tmod_lt_of_pos a hb0
  have h2 := Int.lt_tmod_of_pos a hb0
  constructor <;> omega
theorem g_irem {a b : Int} (hd : decode (mC d) pc = .ok (.irem, 1)) (hb0 : 0 < b) (k : GO xs d (pc + 1) ls (.inl (a.tmod b) :: st) σ Q) : GO xs d pc ls (.inl b :: .inl a :: st) σ Q := by
  intro p l e R s m args below meth c D cyI cyZ adr A cells slots QF C RT0 H locs lsA hR hS hL hst
  have hv := List.forall_mem_cons.mp hst
  have hv2 := List.forall_mem_cons.mp hv.2
  have hb : inR b := hv.1
  have ha : inR a := hv2.1
  have kk := k p l e R s m args below meth c D cyI cyZ adr A cells slots QF C RT0 H locs lsA hR hS hL (okcons (tmod_inR hb hb0) hv2.2)
  refine lv_irem C.1 C.2.1 hd (fun h => ?_) ?_
  · rw [← ofI_0, ofI_eq hb (by decide)] at h
    omega
  · rw [← Int32.ofInt_tdiv (a := a) (b := b) ha.1 ha.2 hb.1 hb.2, ← Int32.ofInt_mul, ← Int32.ofInt_sub]
    have e1 : a - a.tdiv b * b = a.tmod b := by
      have := Int.tmod_add_tdiv_mul a b
      omega
    rw [e1]
    exact kk
theorem g_iand {a b : Int} (hd : decode (mC d) pc = .ok (.iand, 1)) (k : GO xs d (pc + 1) ls (.inl (iand a b) :: st) σ Q) : GO xs d pc ls (.inl b :: .inl a :: st) σ Q := by
  intro p l e R s m args below meth c D cyI cyZ adr A cells slots QF C RT0 H locs lsA hR hS hL hst
  have hv := List.forall_mem_cons.mp (List.forall_mem_cons.mp hst).2
  have kk := k p l e R s m args below meth c D cyI cyZ adr A cells slots QF C RT0 H locs lsA hR hS hL (okcons (inR_toInt _) hv.2)
  refine lv_iand C.1 C.2.1 hd ?_
  have e1 : Int32.ofInt a &&& Int32.ofInt b = Int32.ofInt (iand a b) := (Int32.ofInt_toInt _).symm
  rw [e1]
  exact kk
theorem g_ior {a b : Int} (hd : decode (mC d) pc = .ok (.ior, 1)) (k : GO xs d (pc + 1) ls (.inl (ior a b) :: st) σ Q) : GO xs d pc ls (.inl b :: .inl a :: st) σ Q := by
  intro p l e R s m args below meth c D cyI cyZ adr A cells slots QF C RT0 H locs lsA hR hS hL hst
  have hv := List.forall_mem_cons.mp (List.forall_mem_cons.mp hst).2
  have kk := k p l e R s m args below meth c D cyI cyZ adr A cells slots QF C RT0 H locs lsA hR hS hL (okcons (inR_toInt _) hv.2)
  refine lv_ior C.1 C.2.1 hd ?_
  have e1 : Int32.ofInt a ||| Int32.ofInt b = Int32.ofInt (ior a b) := (Int32.ofInt_toInt _).symm
  rw [e1]
  exact kk
theorem g_ishl {a b : Int} (hd : decode (mC d) pc = .ok (.ishl, 1)) (k : GO xs d (pc + 1) ls (.inl (ishl a b) :: st) σ Q) : GO xs d pc ls (.inl b :: .inl a :: st) σ Q := by
  intro p l e R s m args below meth c D cyI cyZ adr A cells slots QF C RT0 H locs lsA hR hS hL hst
  have hv := List.forall_mem_cons.mp (List.forall_mem_cons.mp hst).2
  have kk := k p l e R s m args below meth c D cyI cyZ adr A cells slots QF C RT0 H locs lsA hR hS hL (okcons (inR_toInt _) hv.2)
  refine lv_ishl C.1 C.2.1 hd ?_
  have e1 : Int32.ofInt a <<< (Int32.ofInt b &&& 31) = Int32.ofInt (ishl a b) := (Int32.ofInt_toInt _).symm
  rw [e1]
  exact kk
theorem g_ishr {a b : Int} (hd : decode (mC d) pc = .ok (.ishr, 1)) (k : GO xs d (pc + 1) ls (.inl (ishr a b) :: st) σ Q) : GO xs d pc ls (.inl b :: .inl a :: st) σ Q := by
  intro p l e R s m args below meth c D cyI cyZ adr A cells slots QF C RT0 H locs lsA hR hS hL hst
  have hv := List.forall_mem_cons.mp (List.forall_mem_cons.mp hst).2
  have kk := k p l e R s m args below meth c D cyI cyZ adr A cells slots QF C RT0 H locs lsA hR hS hL (okcons (inR_toInt _) hv.2)
  refine lv_ishr C.1 C.2.1 hd ?_
  have e1 : Int32.ofInt a >>> (Int32.ofInt b &&& 31) = Int32.ofInt (ishr a b) := (Int32.ofInt_toInt _).symm
  rw [e1]
  exact kk
-- branches
theorem g_goto {off : Int} {tgt : Nat} (hd : decode (mC d) pc = .ok (.goto off, 3)) (ht : (pc : Int) + off = (tgt : Int)) (k : GO xs d tgt ls st σ Q) : GO xs d pc ls st σ Q := by
  intro p l e R s m args below meth c D cyI cyZ adr A cells slots QF C RT0 H locs lsA hR hS hL hst
  exact lv_goto C.1 C.2.1 hd ht (k p l e R s m args below meth c D cyI cyZ adr A cells slots QF C RT0 H locs lsA hR hS hL hst)
theorem g_icmp_eq {a b : Int} {off : Int} {tgt : Nat} (hd : decode (mC d) pc = .ok (.if_icmp .eq off, 3)) (ht : (pc : Int) + off = (tgt : Int)) (kt : a = b → GO xs d tgt ls st σ Q) (kf : a ≠ b → GO xs d (pc + 3) ls st σ Q) : GO xs d pc ls (.inl b :: .inl a :: st) σ Q := by
  intro p l e R s m args below meth c D cyI cyZ adr A cells slots QF C RT0 H locs lsA hR hS hL hst
  have hv := List.forall_mem_cons.mp hst
  have hv2 := List.forall_mem_cons.mp hv.2
  have hb : inR b := hv.1
  have ha : inR a := hv2.1
  refine lv_icmp_eq (x := Int32.ofInt a) (y := Int32.ofInt b) C.1 C.2.1 hd ht (fun h => kt ?_ p l e R s m args below meth c D cyI cyZ adr A cells slots QF C RT0 H locs lsA hR hS hL  hv2.2) (fun h => kf ?_ p l e R s m args below meth c D cyI cyZ adr A cells slots QF C RT0 H locs lsA hR hS hL  hv2.2)
  · simp only [ne_eq, ge_iff_le, gt_iff_lt, ofI_eq ha hb, ofI_lt ha hb, ofI_le ha hb, ofI_lt hb ha, ofI_le hb ha] at h
    omega
  · simp only [ne_eq, ge_iff_le, gt_iff_lt, ofI_eq ha hb, ofI_lt ha hb, ofI_le ha hb, ofI_lt hb ha, ofI_le hb ha] at h
    omega
theorem g_if_eq {a : Int} {off : Int} {tgt : Nat} (hd : decode (mC d) pc = .ok (.ifCond .eq off, 3)) (ht : (pc : Int) + off = (tgt : Int)) (kt : a = 0 → GO xs d tgt ls st σ Q) (kf : a ≠ 0 → GO xs d (pc + 3) ls st σ Q) : GO xs d pc ls (.inl a :: st) σ Q := by
  intro p l e R s m args below meth c D cyI cyZ adr A cells slots QF C RT0 H locs lsA hR hS hL hst
  have hv := List.forall_mem_cons.mp hst
  have ha : inR a := hv.1
  have hb : inR 0 := by decide
  refine lv_if_eq (x := Int32.ofInt a) C.1 C.2.1 hd ht (fun h => kt ?_ p l e R s m args below meth c D cyI cyZ adr A cells slots QF C RT0 H locs lsA hR hS hL  hv.2) (fun h => kf ?_ p l e R s m args below meth c D cyI cyZ adr A cells slots QF C RT0 H locs lsA hR hS hL  hv.2)
  · simp only [ne_eq, ge_iff_le, gt_iff_lt, ← ofI_0, ofI_eq ha hb, ofI_lt ha hb, ofI_le ha hb, ofI_lt hb ha, ofI_le hb ha] at h
    omega
  · simp only [ne_eq, ge_iff_le, gt_iff_lt, ← ofI_0, ofI_eq ha hb, ofI_lt ha hb, ofI_le ha hb, ofI_lt hb ha, ofI_le hb ha] at h
    omega
theorem g_icmp_ne {a b : Int} {off : Int} {tgt : Nat} (hd : decode (mC d) pc = .ok (.if_icmp .ne off, 3)) (ht : (pc : Int) + off = (tgt : Int)) (kt : a ≠ b → GO xs d tgt ls st σ Q) (kf : a = b → GO xs d (pc + 3) ls st σ Q) : GO xs d pc ls (.inl b :: .inl a :: st) σ Q := by
  intro p l e R s m args below meth c D cyI cyZ adr A cells slots QF C RT0 H locs lsA hR hS hL hst
  have hv := List.forall_mem_cons.mp hst
  have hv2 := List.forall_mem_cons.mp hv.2
  have hb : inR b := hv.1
  have ha : inR a := hv2.1
  refine lv_icmp_ne (x := Int32.ofInt a) (y := Int32.ofInt b) C.1 C.2.1 hd ht (fun h => kt ?_ p l e R s m args below meth c D cyI cyZ adr A cells slots QF C RT0 H locs lsA hR hS hL  hv2.2) (fun h => kf ?_ p l e R s m args below meth c D cyI cyZ adr A cells slots QF C RT0 H locs lsA hR hS hL  hv2.2)
  · simp only [ne_eq, ge_iff_le, gt_iff_lt, ofI_eq ha hb, ofI_lt ha hb, ofI_le ha hb, ofI_lt hb ha, ofI_le hb ha] at h
    omega
  · simp only [ne_eq, ge_iff_le, gt_iff_lt, ofI_eq ha hb, ofI_lt ha hb, ofI_le ha hb, ofI_lt hb ha, ofI_le hb ha] at h
    omega
theorem g_if_ne {a : Int} {off : Int} {tgt : Nat} (hd : decode (mC d) pc = .ok (.ifCond .ne off, 3)) (ht : (pc : Int) + off = (tgt : Int)) (kt : a ≠ 0 → GO xs d tgt ls st σ Q) (kf : a = 0 → GO xs d (pc + 3) ls st σ Q) : GO xs d pc ls (.inl a :: st) σ Q := by
  intro p l e R s m args below meth c D cyI cyZ adr A cells slots QF C RT0 H locs lsA hR hS hL hst
  have hv := List.forall_mem_cons.mp hst
  have ha : inR a := hv.1
  have hb : inR 0 := by decide
  refine lv_if_ne (x := Int32.ofInt a) C.1 C.2.1 hd ht (fun h => kt ?_ p l e R s m args below meth c D cyI cyZ adr A cells slots QF C RT0 H locs lsA hR hS hL  hv.2) (fun h => kf ?_ p l e R s m args below meth c D cyI cyZ adr A cells slots QF C RT0 H locs lsA hR hS hL  hv.2)
  · simp only [ne_eq, ge_iff_le, gt_iff_lt, ← ofI_0, ofI_eq ha hb, ofI_lt ha hb, ofI_le ha hb, ofI_lt hb ha, ofI_le hb ha] at h
    omega
  · simp only [ne_eq, ge_iff_le, gt_iff_lt, ← ofI_0, ofI_eq ha hb, ofI_lt ha hb, ofI_le ha hb, ofI_lt hb ha, ofI_le hb ha] at h
    omega
theorem g_icmp_lt {a b : Int} {off : Int} {tgt : Nat} (hd : decode (mC d) pc = .ok (.if_icmp .lt off, 3)) (ht : (pc : Int) + off = (tgt : Int)) (kt : a < b → GO xs d tgt ls st σ Q) (kf : b ≤ a → GO xs d (pc + 3) ls st σ Q) : GO xs d pc ls (.inl b :: .inl a :: st) σ Q := by
  intro p l e R s m args below meth c D cyI cyZ adr A cells slots QF C RT0 H locs lsA hR hS hL hst
  have hv := List.forall_mem_cons.mp hst
  have hv2 := List.forall_mem_cons.mp hv.2
  have hb : inR b := hv.1
  have ha : inR a := hv2.1
  refine lv_icmp_lt (x := Int32.ofInt a) (y := Int32.ofInt b) C.1 C.2.1 hd ht (fun h => kt ?_ p l e R s m args below meth c D cyI cyZ adr A cells slots QF C RT0 H locs lsA hR hS hL  hv2.2) (fun h => kf ?_ p l e R s m args below meth c D cyI cyZ adr A cells slots QF C RT0 H locs lsA hR hS hL  hv2.2)
  · simp only [ne_eq, ge_iff_le, gt_iff_lt, ofI_eq ha hb, ofI_lt ha hb, ofI_le ha hb, ofI_lt hb ha, ofI_le hb ha] at h
    omega
  · simp only [ne_eq, ge_iff_le, gt_iff_lt, ofI_eq ha hb, ofI_lt ha hb, ofI_le ha hb, ofI_lt hb ha, ofI_le hb ha] at h
    omega
theorem g_if_lt {a : Int} {off : Int} {tgt : Nat} (hd : decode (mC d) pc = .ok (.ifCond .lt off, 3)) (ht : (pc : Int) + off = (tgt : Int)) (kt : a < 0 → GO xs d tgt ls st σ Q) (kf : 0 ≤ a → GO xs d (pc + 3) ls st σ Q) : GO xs d pc ls (.inl a :: st) σ Q := by
  intro p l e R s m args below meth c D cyI cyZ adr A cells slots QF C RT0 H locs lsA hR hS hL hst
  have hv := List.forall_mem_cons.mp hst
  have ha : inR a := hv.1
  have hb : inR 0 := by decide
  refine lv_if_lt (x := Int32.ofInt a) C.1 C.2.1 hd ht (fun h => kt ?_ p l e R s m args below meth c D cyI cyZ adr A cells slots QF C RT0 H locs lsA hR hS hL  hv.2) (fun h => kf ?_ p l e R s m args below meth c D cyI cyZ adr A cells slots QF C RT0 H locs lsA hR hS hL  hv.2)
  · simp only [ne_eq, ge_iff_le, gt_iff_lt, ← ofI_0, ofI_eq ha hb, ofI_lt ha hb, ofI_le ha hb, ofI_lt hb ha, ofI_le hb ha] at h
    omega
  · simp only [ne_eq, ge_iff_le, gt_iff_lt, ← ofI_0, ofI_eq ha hb, ofI_lt ha hb, ofI_le ha hb, ofI_lt hb ha, ofI_le hb ha] at h
    omega
theorem g_icmp_ge {a b : Int} {off : Int} {tgt : Nat} (hd : decode (mC d) pc = .ok (.if_icmp .ge off, 3)) (ht : (pc : Int) + off = (tgt : Int)) (kt : b ≤ a → GO xs d tgt ls st σ Q) (kf : a < b → GO xs d (pc + 3) ls st σ Q) : GO xs d pc ls (.inl b :: .inl a :: st) σ Q := by
  intro p l e R s m args below meth c D cyI cyZ adr A cells slots QF C RT0 H locs lsA hR hS hL hst
  have hv := List.forall_mem_cons.mp hst
  have hv2 := List.forall_mem_cons.mp hv.2
  have hb : inR b := hv.1
  have ha : inR a := hv2.1
  refine lv_icmp_ge (x := Int32.ofInt a) (y := Int32.ofInt b) C.1 C.2.1 hd ht (fun h => kt ?_ p l e R s m args below meth c D cyI cyZ adr A cells slots QF C RT0 H locs lsA hR hS hL  hv2.2) (fun h => kf ?_ p l e R s m args below meth c D cyI cyZ adr A cells slots QF C RT0 H locs lsA hR hS hL  hv2.2)
  · simp only [ne_eq, ge_iff_le, gt_iff_lt, ofI_eq ha hb, ofI_lt ha hb, ofI_le ha hb, ofI_lt hb ha, ofI_le hb ha] at h
    omega
  · simp only [ne_eq, ge_iff_le, gt_iff_lt, ofI_eq ha hb, ofI_lt ha hb, ofI_le ha hb, ofI_lt hb ha, ofI_le hb ha] at h
    omega
theorem g_if_ge {a : Int} {off : Int} {tgt : Nat} (hd : decode (mC d) pc = .ok (.ifCond .ge off, 3)) (ht : (pc : Int) + off = (tgt : Int)) (kt : 0 ≤ a → GO xs d tgt ls st σ Q) (kf : a < 0 → GO xs d (pc + 3) ls st σ Q) : GO xs d pc ls (.inl a :: st) σ Q := by
  intro p l e R s m args below meth c D cyI cyZ adr A cells slots QF C RT0 H locs lsA hR hS hL hst
  have hv := List.forall_mem_cons.mp hst
  have ha : inR a := hv.1
  have hb : inR 0 := by decide
  refine lv_if_ge (x := Int32.ofInt a) C.1 C.2.1 hd ht (fun h => kt ?_ p l e R s m args below meth c D cyI cyZ adr A cells slots QF C RT0 H locs lsA hR hS hL  hv.2) (fun h => kf ?_ p l e R s m args below meth c D cyI cyZ adr A cells slots QF C RT0 H locs lsA hR hS hL  hv.2)
  · simp only [ne_eq, ge_iff_le, gt_iff_lt, ← ofI_0, ofI_eq ha hb, ofI_lt ha hb, ofI_le ha hb, ofI_lt hb ha, ofI_le hb ha] at h
    omega
  · simp only [ne_eq, ge_iff_le, gt_iff_lt, ← ofI_0, ofI_eq ha hb, ofI_lt ha hb, ofI_le ha hb, ofI_lt hb ha, ofI_le hb ha] at h
    omega
theorem g_icmp_gt {a b : Int} {off : Int} {tgt : Nat} (hd : decode (mC d) pc = .ok (.if_icmp .gt off, 3)) (ht : (pc : Int) + off = (tgt : Int)) (kt : b < a → GO xs d tgt ls st σ Q) (kf : a ≤ b → GO xs d (pc + 3) ls st σ Q) : GO xs d pc ls (.inl b :: .inl a :: st) σ Q := by
  intro p l e R s m args below meth c D cyI cyZ adr A cells slots QF C RT0 H locs lsA hR hS hL hst
  have hv := List.forall_mem_cons.mp hst
  have hv2 := List.forall_mem_cons.mp hv.2
  have hb : inR b := hv.1
  have ha : inR a := hv2.1
  refine lv_icmp_gt (x := Int32.ofInt a) (y := Int32.ofInt b) C.1 C.2.1 hd ht (fun h => kt ?_ p l e R s m args below meth c D cyI cyZ adr A cells slots QF C RT0 H locs lsA hR hS hL  hv2.2) (fun h => kf ?_ p l e R s m args below meth c D cyI cyZ adr A cells slots QF C RT0 H locs lsA hR hS hL  hv2.2)
  · simp only [ne_eq, ge_iff_le, gt_iff_lt, ofI_eq ha hb, ofI_lt ha hb, ofI_le ha hb, ofI_lt hb ha, ofI_le hb ha] at h
    omega
  · simp only [ne_eq, ge_iff_le, gt_iff_lt, ofI_eq ha hb, ofI_lt ha hb, ofI_le ha hb, ofI_lt hb ha, ofI_le hb ha] at h
    omega
theorem g_if_gt {a : Int} {off : Int} {tgt : Nat} (hd : decode (mC d) pc = .ok (.ifCond .gt off, 3)) (ht : (pc : Int) + off = (tgt : Int)) (kt : 0 < a → GO xs d tgt ls st σ Q) (kf : a ≤ 0 → GO xs d (pc + 3) ls st σ Q) : GO xs d pc ls (.inl a :: st) σ Q := by
  intro p l e R s m args below meth c D cyI cyZ adr A cells slots QF C RT0 H locs lsA hR hS hL hst
  have hv := List.forall_mem_cons.mp hst
  have ha : inR a := hv.1
  have hb : inR 0 := by decide
  refine lv_if_gt (x := Int32.ofInt a) C.1 C.2.1 hd ht (fun h => kt ?_ p l e R s m args below meth c D cyI cyZ adr A cells slots QF C RT0 H locs lsA hR hS hL  hv.2) (fun h => kf ?_ p l e R s m args below meth c D cyI cyZ adr A cells slots QF C RT0 H locs lsA hR hS hL  hv.2)
  · simp only [ne_eq, ge_iff_le, gt_iff_lt, ← ofI_0, ofI_eq ha hb, ofI_lt ha hb, ofI_le ha hb, ofI_lt hb ha, ofI_le hb ha] at h
    omega
  · simp only [ne_eq, ge_iff_le, gt_iff_lt, ← ofI_0, ofI_eq ha hb, ofI_lt ha hb, ofI_le ha hb, ofI_lt hb ha, ofI_le hb ha] at h
    omega
theorem g_icmp_le {a b : Int} {off : Int} {tgt : Nat} (hd : decode (mC d) pc = .ok (.if_icmp .le off, 3)) (ht : (pc : Int) + off = (tgt : Int)) (kt : a ≤ b → GO xs d tgt ls st σ Q) (kf : b < a → GO xs d (pc + 3) ls st σ Q) : GO xs d pc ls (.inl b :: .inl a :: st) σ Q := by
  intro p l e R s m args below meth c D cyI cyZ adr A cells slots QF C RT0 H locs lsA hR hS hL hst
  have hv := List.forall_mem_cons.mp hst
  have hv2 := List.forall_mem_cons.mp hv.2
  have hb : inR b := hv.1
  have ha : inR a := hv2.1
  refine lv_icmp_le (x := Int32.ofInt a) (y := Int32.ofInt b) C.1 C.2.1 hd ht (fun h => kt ?_ p l e R s m args below meth c D cyI cyZ adr A cells slots QF C RT0 H locs lsA hR hS hL  hv2.2) (fun h => kf ?_ p l e R s m args below meth c D cyI cyZ adr A cells slots QF C RT0 H locs lsA hR hS hL  hv2.2)
  · simp only [ne_eq, ge_iff_le, gt_iff_lt, ofI_eq ha hb, ofI_lt ha hb, ofI_le ha hb, ofI_lt hb ha, ofI_le hb ha] at h
    omega
  · simp only [ne_eq, ge_iff_le, gt_iff_lt, ofI_eq ha hb, ofI_lt ha hb, ofI_le ha hb, ofI_lt hb ha, ofI_le hb ha] at h
    omega
theorem g_if_le {a : Int} {off : Int} {tgt : Nat} (hd : decode (mC d) pc = .ok (.ifCond .le off, 3)) (ht : (pc : Int) + off = (tgt : Int)) (kt : a ≤ 0 → GO xs d tgt ls st σ Q) (kf : 0 < a → GO xs d (pc + 3) ls st σ Q) : GO xs d pc ls (.inl a :: st) σ Q := by
  intro p l e R s m args below meth c D cyI cyZ adr A cells slots QF C RT0 H locs lsA hR hS hL hst
  have hv := List.forall_mem_cons.mp hst
  have ha : inR a := hv.1
  have hb : inR 0 := by decide
  refine lv_if_le (x := Int32.ofInt a) C.1 C.2.1 hd ht (fun h => kt ?_ p l e R s m args below meth c D cyI cyZ adr A cells slots QF C RT0 H locs lsA hR hS hL  hv.2) (fun h => kf ?_ p l e R s m args below meth c D cyI cyZ adr A cells slots QF C RT0 H locs lsA hR hS hL  hv.2)
  · simp only [ne_eq, ge_iff_le, gt_iff_lt, ← ofI_0, ofI_eq ha hb, ofI_lt ha hb, ofI_le ha hb, ofI_lt hb ha, ofI_le hb ha] at h
    omega
  · simp only [ne_eq, ge_iff_le, gt_iff_lt, ← ofI_0, ofI_eq ha hb, ofI_lt ha hb, ofI_le ha hb, ofI_lt hb ha, ofI_le hb ha] at h
    omega
-- fields
def FL (own : String) (idx ci j : Nat) : Prop := ∃ (C : String) (T : u_T) (N : Nat), vwCl[ci]? = some (C, T, N) ∧ j < N ∧ (T j).1 = C ∧ Cond.fieldLink own idx C (T j).2.1 (T j).2.2.1 ∈ TB ∧ ∀ w ∈ u_ws C T N, w ∈ TB
def FP (own : String) (idx ci j : Nat) (ty : FieldType) : Prop := ∃ (C : String) (T : u_T) (N : Nat) (ty0 : Nat → FieldType), vwCl[ci]? = some (C, T, N) ∧ j < N ∧ (T j).1 = C ∧ Cond.fieldLink own idx C (T j).2.1 (T j).2.2.1 ∈ TB ∧ (∀ w ∈ u_ws C T N, w ∈ TB) ∧ (∀ k, k < N → parseFieldDescriptor (T k).2.2.1 = some (ty0 k)) ∧ (∀ a, a < N → ∀ b, b < N → a ≠ b → (T a).2.1 ≠ (T b).2.1) ∧ (T j).2.2.2 = false ∧ ty0 j = ty
theorem cell_obj {cyI cyZ : ClassId} {adr : Nat → Nat} {r ci n : Nat} (hk : shp r = (ci, n)) (h12 : ci < 12) : cellE cyI cyZ adr σ r = .inr (ci, (List.range n).map (fv adr σ r)) := by
  unfold cellE
  rw [hk, if_pos h12]
theorem cell_ari {cyI cyZ : ClassId} {adr : Nat → Nat} {r n : Nat} (hk : shp r = (12, n)) : cellE cyI cyZ adr σ r = .inl (cyI, n, .inl (fun j => Int32.ofInt (σ r j))) := by
  unfold cellE
  rw [hk, if_neg (show ¬ (12 : Nat) < 12 by decide), if_pos rfl]
theorem cell_arz {cyI cyZ : ClassId} {adr : Nat → Nat} {r n : Nat} (hk : shp r = (13, n)) : cellE cyI cyZ adr σ r = .inl (cyZ, n, .inl (fun j => Int32.ofInt (σ r j))) := by
  unfold cellE
  rw [hk, if_neg (show ¬ (13 : Nat) < 12 by decide), if_neg (show ¬ (13 : Nat) = 12 by decide)]
theorem vw_lt {ci : Nat} {q : vw_C} (h : vwCl[ci]? = some q) : ci < 12 := (List.getElem?_eq_some_iff.mp h).1
theorem g_getI {idx ci j r n : Nat} (hf : FL (mY d).cls idx ci j) (hr : r < NC) (hk : shp r = (ci, n)) (hj : j < n) (hn : rfs r j = none) (hd : decode (mC d) pc = .ok (.getfield idx, 3)) (k : GO xs d (pc + 3) ls (.inl (σ r j) :: st) σ Q) : GO xs d pc ls (.inr r :: st) σ Q := by
  intro p l e R s m args below meth c D cyI cyZ adr A cells slots QF C RT0 H locs lsA hR hS hL hst
  obtain ⟨CC, TT, N, hc, hjN, hsame, hlink, hin⟩ := hf
  have hv := List.forall_mem_cons.mp hst
  have he : (wsOf cyI cyZ adr σ)[r]? = some (adr r, .inr (ci, (List.range n).map (fv adr σ r))) := by rw [ws_at hr, cell_obj hk (vw_lt hc)]
  refine va_get (v := .int (Int32.ofInt (σ r j))) C.1 C.2.1 C.2.2.2.2.1 hin C.2.2.2.1 C.2.2.2.2.2.2.1 hR.1 r he hc j hjN (C.2.2.2.2.1 _ hlink) (fun x h9 => by rw [hsame] at h9; exact h9) ?_ hd
    (k p l e R s m args below meth c D cyI cyZ adr A cells slots QF C RT0 H locs lsA hR hS hL (okcons (hR.2 r j) hv.2))
  simp [hj, fv, hn]
theorem g_getR {idx ci j r n r' : Nat} (hf : FL (mY d).cls idx ci j) (hr : r < NC) (hk : shp r = (ci, n)) (hj : j < n) (hn : rfs r j = some r') (hd : decode (mC d) pc = .ok (.getfield idx, 3)) (k : GO xs d (pc + 3) ls (.inr r' :: st) σ Q) : GO xs d pc ls (.inr r :: st) σ Q := by
  intro p l e R s m args below meth c D cyI cyZ adr A cells slots QF C RT0 H locs lsA hR hS hL hst
  obtain ⟨CC, TT, N, hc, hjN, hsame, hlink, hin⟩ := hf
  have hv := List.forall_mem_cons.mp hst
  have he : (wsOf cyI cyZ adr σ)[r]? = some (adr r, .inr (ci, (List.range n).map (fv adr σ r))) := by rw [ws_at hr, cell_obj hk (vw_lt hc)]
  refine va_get (v := .ref (adr r')) C.1 C.2.1 C.2.2.2.2.1 hin C.2.2.2.1 C.2.2.2.2.2.2.1 hR.1 r he hc j hjN (C.2.2.2.2.1 _ hlink) (fun x h9 => by rw [hsame] at h9; exact h9) ?_ hd
    (k p l e R s m args below meth c D cyI cyZ adr A cells slots QF C RT0 H locs lsA hR hS hL (okcons trivial hv.2))
  simp [hj, fv, hn]
theorem fs_set {adr : Nat → Nat} {r j n : Nat} {v : Int} (hn : rfs r j = none) : ((List.range n).map (fv adr σ r)).set j (.int (Int32.ofInt v)) = (List.range n).map (fv adr (mu σ r j v) r) := by
  apply List.ext_getElem?
  intro i
  by_cases h : i = j
  · subst h
    by_cases hi : i < n
    · rw [List.getElem?_set_self (by simpa using hi)]
      simp [hi, fv, hn, mu]
    · rw [List.getElem?_eq_none (by simp; omega), List.getElem?_eq_none (by simp; omega)]
  · rw [List.getElem?_set_ne (Ne.symm h)]
    by_cases hi : i < n
    · simp [hi, fv, mu, h]
    · rw [List.getElem?_eq_none (by simp; omega), List.getElem?_eq_none (by simp; omega)]
theorem g_putI {idx ci j r n : Nat} {ty : FieldType} {v : Int} (hf : FP (mY d).cls idx ci j ty) (hr : r < NC) (hk : shp r = (ci, n)) (hj : j < n) (hn : rfs r j = none) (hty : ty = .int ∨ (ty = .boolean ∧ (v = 0 ∨ v = 1))) (hd : decode (mC d) pc = .ok (.putfield idx, 3)) (k : GO xs d (pc + 3) ls st (mu σ r j v) Q) : GO xs d pc ls (.inl v :: .inr r :: st) σ Q := by
  intro p l e R s m args below meth c D cyI cyZ adr A cells slots QF C RT0 H locs lsA hR hS hL hst
  obtain ⟨CC, TT, N, ty0, hc, hjN, hsame, hlink, hin, hpd, hnm, hfin, hty0⟩ := hf
  have hv := List.forall_mem_cons.mp hst
  have hv2 := List.forall_mem_cons.mp hv.2
  have he : (wsOf cyI cyZ adr σ)[r]? = some (adr r, .inr (ci, (List.range n).map (fv adr σ r))) := by rw [ws_at hr, cell_obj hk (vw_lt hc)]
  have hpty : parseFieldDescriptor (TT j).2.2.1 = some ty := by rw [← hty0]; exact hpd j hjN
  refine va_put (v := .int (Int32.ofInt v)) (ty := ty) C.1 C.2.1 C.2.2.2.2.1 hin ty0 hpd hnm C.2.2.2.1 C.2.2.2.2.2.2.1 hR.1 (C.2.2.2.2.2.2.2.1.D cyI cyZ σ) hS r he hc j hjN (C.2.2.2.2.1 _ hlink) (fun x h9 => by rw [hsame] at h9; exact h9) hfin hpty ?_ ?_ (by simpa using hj) hd (fun H1 locs1 hP1 hD1 hS1 => ?_)
  · rcases hty with h | ⟨h, h2 | h2⟩
    · rw [h]; rfl
    · rw [h, h2]; rfl
    · rw [h, h2]; rfl
  · rcases hty with h | ⟨h, h2 | h2⟩
    · rw [h]; rfl
    · rw [h, h2]; rfl
    · rw [h, h2]; rfl
  · rw [fs_set hn] at hP1
    have e1 := ws_set (cyI := cyI) (cyZ := cyZ) (adr := adr) (σ := σ) (σ' := mu σ r j v) hr mu_ne
    rw [cell_obj hk (vw_lt hc)] at e1
    rw [e1] at hP1
    exact k p l e R s m args below meth c D cyI cyZ adr A cells slots QF C RT0 H1 locs1 lsA ⟨hP1, mu_inR hR.2 hv.1⟩ hS1 hL hv2.2
-- arrays
theorem g_iald {r n : Nat} {i : Int} (hr : r < NC) (hk : shp r = (12, n)) (h0 : 0 ≤ i) (hn : i < (n : Int)) (hd : decode (mC d) pc = .ok (.iaload, 1)) (k : GO xs d (pc + 1) ls (.inl (σ r i.toNat) :: st) σ Q) : GO xs d pc ls (.inl i :: .inr r :: st) σ Q := by
  intro p l e R s m args below meth c D cyI cyZ adr A cells slots QF C RT0 H locs lsA hR hS hL hst
  have hv := List.forall_mem_cons.mp hst
  have hv2 := List.forall_mem_cons.mp hv.2
  have hi : inR i := hv.1
  have he : (wsOf cyI cyZ adr σ)[r]? = some (adr r, .inl (cyI, n, .inl (fun j => Int32.ofInt (σ r j)))) := by rw [ws_at hr, cell_ari hk]
  refine va_iald C.1 C.2.1 C.2.2.2.2.2.2.1 hR.1 r 0 he rfl (ofI_in hi h0 hn) hd ?_
  rw [ofI_clamp hi]
  exact k p l e R s m args below meth c D cyI cyZ adr A cells slots QF C RT0 H locs lsA hR hS hL (okcons (hR.2 r _) hv2.2)
theorem g_zald {r n : Nat} {i : Int} (hr : r < NC) (hk : shp r = (13, n)) (h0 : 0 ≤ i) (hn : i < (n : Int)) (hd : decode (mC d) pc = .ok (.baload, 1)) (k : GO xs d (pc + 1) ls (.inl (σ r i.toNat) :: st) σ Q) : GO xs d pc ls (.inl i :: .inr r :: st) σ Q := by
  intro p l e R s m args below meth c D cyI cyZ adr A cells slots QF C RT0 H locs lsA hR hS hL hst
  have hv := List.forall_mem_cons.mp hst
  have hv2 := List.forall_mem_cons.mp hv.2
  have hi : inR i := hv.1
  have he : (wsOf cyI cyZ adr σ)[r]? = some (adr r, .inl (cyZ, n, .inl (fun j => Int32.ofInt (σ r j)))) := by rw [ws_at hr, cell_arz hk]
  refine va_zald C.1 C.2.1 C.2.2.2.2.2.2.1 hR.1 r 1 he rfl (ofI_in hi h0 hn) hd ?_
  rw [ofI_clamp hi]
  exact k p l e R s m args below meth c D cyI cyZ adr A cells slots QF C RT0 H locs lsA hR hS hL (okcons (hR.2 r _) hv2.2)
theorem row_upd {r : Nat} {i v : Int} : upd (fun j => Int32.ofInt (σ r j)) i.toNat (Int32.ofInt v) = fun j => Int32.ofInt (mu σ r i.toNat v r j) := by
  funext j
  unfold upd mu
  by_cases h : j = i.toNat
  · rw [if_pos h, if_pos ⟨rfl, h⟩]
  · rw [if_neg h, if_neg (fun q => h q.2)]
theorem g_iast {r n : Nat} {i v : Int} (hr : r < NC) (hk : shp r = (12, n)) (h0 : 0 ≤ i) (hn : i < (n : Int)) (hd : decode (mC d) pc = .ok (.iastore, 1)) (k : GO xs d (pc + 1) ls st (mu σ r i.toNat v) Q) : GO xs d pc ls (.inl v :: .inl i :: .inr r :: st) σ Q := by
  intro p l e R s m args below meth c D cyI cyZ adr A cells slots QF C RT0 H locs lsA hR hS hL hst
  have hv := List.forall_mem_cons.mp hst
  have hv2 := List.forall_mem_cons.mp hv.2
  have hv3 := List.forall_mem_cons.mp hv2.2
  have hi : inR i := hv2.1
  have he : (wsOf cyI cyZ adr σ)[r]? = some (adr r, .inl (cyI, n, .inl (fun j => Int32.ofInt (σ r j)))) := by rw [ws_at hr, cell_ari hk]
  refine va_iast C.1 C.2.1 C.2.2.2.2.2.2.1 hR.1 (C.2.2.2.2.2.2.2.1.D cyI cyZ σ) hS r 0 he rfl (ofI_in hi h0 hn) hd (fun H1 locs1 hP1 hD1 hS1 => ?_)
  rw [ofI_clamp hi, row_upd] at hP1
  have e1 := ws_set (cyI := cyI) (cyZ := cyZ) (adr := adr) (σ := σ) (σ' := mu σ r i.toNat v) hr mu_ne
  rw [cell_ari hk] at e1
  rw [e1] at hP1
  exact k p l e R s m args below meth c D cyI cyZ adr A cells slots QF C RT0 H1 locs1 lsA ⟨hP1, mu_inR hR.2 hv.1⟩ hS1 hL hv3.2
theorem g_zast {r n : Nat} {i v : Int} (hr : r < NC) (hk : shp r = (13, n)) (h0 : 0 ≤ i) (hn : i < (n : Int)) (hb : v = 0 ∨ v = 1) (hd : decode (mC d) pc = .ok (.bastore, 1)) (k : GO xs d (pc + 1) ls st (mu σ r i.toNat v) Q) : GO xs d pc ls (.inl v :: .inl i :: .inr r :: st) σ Q := by
  intro p l e R s m args below meth c D cyI cyZ adr A cells slots QF C RT0 H locs lsA hR hS hL hst
  have hv := List.forall_mem_cons.mp hst
  have hv2 := List.forall_mem_cons.mp hv.2
  have hv3 := List.forall_mem_cons.mp hv2.2
  have hi : inR i := hv2.1
  have he : (wsOf cyI cyZ adr σ)[r]? = some (adr r, .inl (cyZ, n, .inl (fun j => Int32.ofInt (σ r j)))) := by rw [ws_at hr, cell_arz hk]
  refine va_zast C.1 C.2.1 C.2.2.2.2.2.2.1 hR.1 (C.2.2.2.2.2.2.2.1.D cyI cyZ σ) hS r 1 he rfl (ofI_in hi h0 hn) hd (fun H1 locs1 hP1 hD1 hS1 => ?_)
  have eb : vp_nar .boolean (Int32.ofInt v) = Int32.ofInt v := by
    rcases hb with h | h <;> rw [h] <;> rfl
  rw [ofI_clamp hi, eb, row_upd] at hP1
  have e1 := ws_set (cyI := cyI) (cyZ := cyZ) (adr := adr) (σ := σ) (σ' := mu σ r i.toNat v) hr mu_ne
  rw [cell_arz hk] at e1
  rw [e1] at hP1
  exact k p l e R s m args below meth c D cyI cyZ adr A cells slots QF C RT0 H1 locs1 lsA ⟨hP1, mu_inR hR.2 hv.1⟩ hS1 hL hv3.2
theorem g_alen {r n : Nat} (hr : r < NC) (hk : shp r = (12, n)) (hn : n < 2147483648) (hd : decode (mC d) pc = .ok (.arraylength, 1)) (k : GO xs d (pc + 1) ls (.inl (n : Int) :: st) σ Q) : GO xs d pc ls (.inr r :: st) σ Q := by
  intro p l e R s m args below meth c D cyI cyZ adr A cells slots QF C RT0 H locs lsA hR hS hL hst
  have hv := List.forall_mem_cons.mp hst
  have he : (wsOf cyI cyZ adr σ)[r]? = some (adr r, .inl (cyI, n, .inl (fun j => Int32.ofInt (σ r j)))) := by rw [ws_at hr, cell_ari hk]
  exact va_alen (v := Int32.ofInt (n : Int)) C.1 C.2.1 C.2.2.2.2.2.2.1 hR.1 r 0 he rfl Int32.ofInt_eq_ofNat.symm hd (k p l e R s m args below meth c D cyI cyZ adr A cells slots QF C RT0 H locs lsA hR hS hL (okcons (show inR (n : Int) from ⟨by omega, by omega⟩) hv.2))
theorem g_sld {L : Nat} {f : Nat → Int} {i : Int} (hx : xs = some (L, f)) (h0 : 0 ≤ i) (hn : i < (L : Int)) (hd : decode (mC d) pc = .ok (.iaload, 1)) (k : GO xs d (pc + 1) ls (.inl (f i.toNat) :: st) σ Q) : GO xs d pc ls (.inl i :: .inr NC :: st) σ Q := by
  intro p l e R s m args below meth c D cyI cyZ adr A cells slots QF C RT0 H locs lsA hR hS hL hst
  have hv := List.forall_mem_cons.mp hst
  have hv2 := List.forall_mem_cons.mp hv.2
  have hi : inR i := hv.1
  obtain ⟨hX, hbl, hbA, hLL, hfr⟩ := C.2.2.2.2.2.2.2.2.2.2.2.2.2 L f hx
  refine va_sld C.1 C.2.1 hX hbl hbA hS (ofI_in hi h0 hn) hd ?_
  rw [ofI_clamp hi]
  exact k p l e R s m args below meth c D cyI cyZ adr A cells slots QF C RT0 H locs lsA hR hS hL (okcons (hfr _) hv2.2)
theorem g_slen {L : Nat} {f : Nat → Int} (hx : xs = some (L, f)) (hd : decode (mC d) pc = .ok (.arraylength, 1)) (k : GO xs d (pc + 1) ls (.inl (L : Int) :: st) σ Q) : GO xs d pc ls (.inr NC :: st) σ Q := by
  intro p l e R s m args below meth c D cyI cyZ adr A cells slots QF C RT0 H locs lsA hR hS hL hst
  have hv := List.forall_mem_cons.mp hst
  obtain ⟨hX, hbl, hbA, hLL, hfr⟩ := C.2.2.2.2.2.2.2.2.2.2.2.2.2 L f hx
  refine va_slen C.1 C.2.1 hX hbl hbA hS hd ?_
  rw [← Int32.ofInt_eq_ofNat]
  exact k p l e R s m args below meth c D cyI cyZ adr A cells slots QF C RT0 H locs lsA hR hS hL (okcons (show inR (L : Int) from ⟨by omega, by omega⟩) hv.2)
-- returns
theorem g_ret {v : Int} (hr : retOK d pc st v) (hq : Q v σ) : GO xs d pc ls st σ Q := by
  intro p l e R s m args below meth c D cyI cyZ adr A cells slots QF C RT0 H locs lsA hR hS hL hst
  exact RT0 pc H locs lsA st v σ hr hR hS hq
theorem g_ireturn {v : Int} (hk : mK d = 0) (hd : decode (mC d) pc = .ok (.ireturn, 1)) (hq : Q v σ) : GO xs d pc ls [.inl v] σ Q := by
  intro p l e R s m args below meth c D cyI cyZ adr A cells slots QF C RT0 H locs lsA hR hS hL hst
  refine RT0 pc H locs lsA _ v σ ?_ hR hS hq
  unfold retOK
  rw [hk]
  exact ⟨hd, rfl, hst _ List.mem_cons_self⟩
theorem g_zreturn {v : Int} (hk : mK d = 3) (hd : decode (mC d) pc = .ok (.ireturn, 1)) (hb : v = 0 ∨ v = 1) (hq : Q v σ) : GO xs d pc ls [.inl v] σ Q := by
  intro p l e R s m args below meth c D cyI cyZ adr A cells slots QF C RT0 H locs lsA hR hS hL hst
  refine RT0 pc H locs lsA _ v σ ?_ hR hS hq
  unfold retOK
  rw [hk]
  exact ⟨hd, rfl, hb⟩
theorem g_return (hk : mK d = 1) (hd : decode (mC d) pc = .ok (.return_, 1)) (hq : Q 0 σ) : GO xs d pc ls [] σ Q := by
  intro p l e R s m args below meth c D cyI cyZ adr A cells slots QF C RT0 H locs lsA hR hS hL hst
  refine RT0 pc H locs lsA _ 0 σ ?_ hR hS hq
  unfold retOK
  rw [hk]
  exact ⟨hd, rfl, rfl⟩
theorem g_areturn {r : Nat} (hk : mK d = 2) (hd : decode (mC d) pc = .ok (.areturn, 1)) (hq : Q (r : Int) σ) : GO xs d pc ls [.inr r] σ Q := by
  intro p l e R s m args below meth c D cyI cyZ adr A cells slots QF C RT0 H locs lsA hR hS hL hst
  refine RT0 pc H locs lsA _ (r : Int) σ ?_ hR hS hq
  unfold retOK
  rw [hk]
  exact ⟨hd, r, rfl, rfl⟩
-- Math.min
def minName : MethodName := Lib.Math.min.name
theorem g_min {idx : Nat} {a b : Int} (hlink : Cond.methodLink (mY d).cls idx Lib.Math.min.name ∈ TB) (hstat : Cond.static Lib.Math.min.name ∈ TB) (hini : Cond.initialized "java/lang/Math" ∈ TB) (hcode : Cond.code Lib.Math.min.name Lib.Math.min.code 2 (some .int) ∈ TB) (hfr : 1 ≤ mF d) (hlo : st.length + 13 ≤ mL d) (hd : decode (mC d) pc = .ok (.invokestatic idx, 3)) (k : GO xs d (pc + 3) ls (.inl (if a ≤ b then a else b) :: st) σ Q) : GO xs d pc ls (.inl b :: .inl a :: st) σ Q := by
  intro p l e R s m args below meth c D cyI cyZ adr A cells slots QF C RT0 H locs lsA hR hS hL hst
  have hv := List.forall_mem_cons.mp hst
  have hv2 := List.forall_mem_cons.mp hv.2
  have hb : inR b := hv.1
  have ha : inR a := hv2.1
  have hm : inR (if a ≤ b then a else b) := by split <;> assumption
  have hcat : ((st.map (cv adr)).map fun v => v.category).sum = st.length := by
    clear k hst hlo hv hv2
    induction st with
    | nil => rfl
    | cons v t ih => simp only [List.map_cons, List.sum_cons, cv_cat, ih, List.length_cons]; omega
  have h10 := C.2.2.2.2.2.2.2.2.2
  refine va_mmin C.1 C.2.1 (by rw [C.2.2.1]; exact hL.1.symm) C.2.2.2.1 (C.2.2.2.2.1 _ hlink) (C.2.2.2.2.1 _ hstat) (C.2.2.2.2.1 _ hini) (C.2.2.2.2.1 _ hcode) (Nat.le_trans hfr h10.1) (by rw [hcat]; exact Nat.le_trans hlo h10.2.1) h10.2.2.1 h10.2.2.2.1 (x := Int32.ofInt a) (y := Int32.ofInt b) hd ?_
  have e1 : (if Int32.ofInt b < Int32.ofInt a then Int32.ofInt b else Int32.ofInt a) = Int32.ofInt (if a ≤ b then a else b) := by
    by_cases h : a ≤ b
    · rw [if_pos h, if_neg (by rw [ofI_lt hb ha]; omega)]
    · rw [if_neg h, if_pos (by rw [ofI_lt hb ha]; omega)]
  rw [e1]
  exact k p l e R s m args below meth c D cyI cyZ adr A cells slots QF C RT0 H locs lsA hR hS hL (okcons hm hv2.2)
end OPS
/-! ===== calls ===== -/
def Aof (adr : Nat → Nat) (sz : Nat) : Nat → Prop := fun q => (∃ k, k < NC ∧ q = adr k) ∨ sz ≤ q
def PcM (D : va_G) (cyI cyZ : ClassId) (adr : Nat → Nat) (sz : Nat) (args : List AV) (σ : Mem) : Array Value → State → Prop :=
  va_Pc (args.map (cv adr)) (fun U => U.heap.size = sz ∧ Rep D cyI cyZ adr σ U.heap ∧ va_K D vwCl (tysOf cyI cyZ) U ∧ NW U)
def QcM (k : Nat) (D : va_G) (cyI cyZ : ClassId) (adr : Nat → Nat) (sz : Nat) (Q : Int → Mem → Prop) : Array Value → State → Outcome → State → Prop := match k with
  | 1 => va_Qv (S := Mem) (fun u => Q 0 u) (fun u t => Rep D cyI cyZ adr u t.heap) (Aof adr sz)
  | 2 => va_Qr (S := Nat × Mem) (fun u => Q (u.1 : Int) u.2) (fun u a t => a = adr u.1 ∧ Rep D cyI cyZ adr u.2 t.heap) (Aof adr sz)
  | _ => va_Qi (S := Int × Mem) (fun r u => r = Int32.ofInt u.1 ∧ inR u.1 ∧ Q u.1 u.2) (fun u t => Rep D cyI cyZ adr u.2 t.heap) (Aof adr sz)
def wsM (d : MD) : List Cond := .code (mY d) (mC d) (mN d) (mR d) :: TB
def rmM (d : MD) : Room := { frames := mF d, cells := 0, slots := 0, locals := mL d }
/-- a method's contract at these arguments and this memory -/
def CM (d : MD) (as : List AV) (σ : Mem) (Q : Int → Mem → Prop) : Prop :=
  ∀ (l : Launch) (D : va_G) (cyI cyZ : ClassId) (adr : Nat → Nat) (sz : Nat), (∀ i j, i < NC → j < NC → adr i = adr j → i = j) → (∀ v ∈ as, okV v) →
    Met l (mY d) (wsM d) (rmM d) (PcM D cyI cyZ adr sz as σ) (QcM (mK d) D cyI cyZ adr sz Q) 0 0 (Aof adr sz)
theorem lvargs_mem : ∀ (vs : List Value) (i : Nat), (∀ v ∈ vs, v.category = 1) → ∀ (j : Nat) (v : Value), vs[j]? = some v → (i + j, v) ∈ lv_args i vs
  | [], _, _, j, v, h => by simp at h
  | w :: vs, i, hc, j, v, h => by
    have hw := List.forall_mem_cons.mp hc
    unfold lv_args
    rw [if_neg (by rw [hw.1]; decide)]
    cases j with
    | zero =>
      rw [List.getElem?_cons_zero] at h
      cases h
      exact List.mem_cons_self
    | succ j =>
      rw [List.getElem?_cons_succ] at h
      have := lvargs_mem vs (i + 1) hw.2 j v h
      rw [show i + 1 + j = i + (j + 1) by omega] at this
      exact List.mem_cons_of_mem _ this
theorem lgsl_len : ∀ (vs : List Value), (∀ v ∈ vs, v.category = 1) → (lg_sl vs).length = vs.length
  | [], _ => rfl
  | w :: vs, hc => by
    have hw := List.forall_mem_cons.mp hc
    have ih := lgsl_len vs hw.2
    unfold lg_sl at ih ⊢
    rw [List.flatMap_cons, List.length_append, ih, if_neg (by rw [hw.1]; decide)]
    simp
    omega
def kindOK (d : MD) : Prop := match mK d with
  | 0 => mR d = some .int
  | 1 => mR d = none
  | 2 => ∃ n, mR d = some (.object n)
  | _ => mR d = some .boolean
def ent (d : MD) (as : List AV) : List (Option AV) := as.map some ++ List.replicate (mN d - as.length) none
theorem CM_of_GO {d : MD} {as : List AV} {σ : Mem} {Q : Int → Mem → Prop} (hy : plainName (mY d).cls = true) (hkd : kindOK d) (hlen : as.length ≤ mN d) (h : GO none d 0 (ent d as) [] σ Q) : CM d as σ Q := by
  intro l D cyI cyZ adr sz hinj hok
  refine Met.ofW (cc := mC d) (maxL := mN d) (ret := mR d) hy rfl ?_
  intro p e s m args below meth c s₁ B hml hv
  obtain ⟨rfl, hsz, hRep, hK, hNW⟩ := hv
  subst hsz
  have hts := atoms_spec (ws := wsM d) B.pre
  have hown : s.vm.findClass (mY d).cls = some m.cls := findClass_of_methodNamed B.named
  have hcat : ∀ v ∈ as.map (cv adr), v.category = 1 := fun v hv => by
    obtain ⟨a, -, rfl⟩ := List.mem_map.mp hv
    exact cv_cat adr a
  have hl0 := lgsl_len _ hcat
  rw [List.length_map] at hl0
  have hle := lv_entry (as.map (cv adr)) (n := mN d) (by rw [hl0]; exact hlen)
  rw [lg_entry_eq]
  have hDj : Dj (Aof adr s.heap.size) adr := ⟨hinj, fun k hk => Or.inl ⟨k, hk, rfl⟩⟩
  refine h p l e (headSpec (wsM d) (rmM d)).room s m _ below meth c D cyI cyZ adr (Aof adr s.heap.size) 0 0 _ ?_ ?_ s.heap [] _ hRep va_S.rf ?_ (fun v hv => by cases hv)
  · exact ⟨B.exec, B.bytes, hml, hown, fun w hw => hts w (List.mem_cons_of_mem _ hw), hNW, hK, hDj, fun q hq => Or.inr hq, Nat.le_refl _, Nat.le_refl _, Nat.le_refl _, Nat.le_refl _, fun L f hx => by cases hx⟩
  · intro pc H locs lsA st v σ' hr hR2 hS2 hq
    unfold retOK at hr
    unfold kindOK at hkd
    have hx := B.exec
    have hb := B.bytes
    have hret : meth.sig.returnType = mR d := B.returns
    generalize mK d = kk at hr hkd ⊢
    rcases kk with _ | _ | _ | kk
    · obtain ⟨hd, rfl, hin⟩ := hr
      exact W.iret (v := Int32.ofInt v) hx hb (hret.trans hkd) (fun t ht hW => ⟨⟨Int32.ofInt v, (v, σ'), rfl, ⟨rfl, hin, hq⟩, (show Rep D cyI cyZ adr σ' t.heap by rw [ht]; exact hR2)⟩, hS2.F ht⟩) hS2.2.2 hd B.notSynchronized
    · obtain ⟨hd, rfl, rfl⟩ := hr
      exact W.vret hx hb (hret.trans hkd) (fun t ht hW => ⟨⟨σ', rfl, hq, (show Rep D cyI cyZ adr σ' t.heap by rw [ht]; exact hR2)⟩, hS2.F ht⟩) hS2.2.2 hd B.notSynchronized
    · obtain ⟨hd, k, rfl, rfl⟩ := hr
      obtain ⟨n, hn⟩ := hkd
      exact W.aret (v := .ref (adr k)) hx hb (hret.trans hn) (Or.inl ⟨n, rfl⟩) (Or.inr ⟨_, rfl⟩) (fun t ht hW => ⟨⟨(k, σ'), adr k, rfl, hq, ⟨rfl, (show Rep D cyI cyZ adr σ' t.heap by rw [ht]; exact hR2)⟩⟩, hS2.F ht⟩) hS2.2.2 hd B.notSynchronized
    · obtain ⟨hd, rfl, hin⟩ := hr
      have hv : inR v := by rcases hin with h | h <;> rw [h] <;> decide
      exact W.zret (v := Int32.ofInt v) (ty := .boolean) hx hb (hret.trans hkd) (by rcases hin with h | h <;> rw [h] <;> rfl) (fun t ht hW => ⟨⟨Int32.ofInt v, (v, σ'), rfl, ⟨rfl, hv, hq⟩, (show Rep D cyI cyZ adr σ' t.heap by rw [ht]; exact hR2)⟩, hS2.F ht⟩) hS2.2.2 hd B.notSynchronized
  · refine ⟨hle.1, hle.2.1, by unfold ent; rw [List.length_append, List.length_map, List.length_replicate]; omega, fun i v hi => ?_⟩
    unfold ent at hi
    by_cases hil : i < as.length
    · rw [List.getElem?_append_left (by rw [List.length_map]; exact hil), List.getElem?_map] at hi
      cases hq : as[i]? with
      | none => rw [hq] at hi; cases hi
      | some w =>
        rw [hq] at hi
        cases hi
        have hm := lvargs_mem (as.map (cv adr)) 0 hcat i (cv adr v) (by rw [List.getElem?_map, hq]; rfl)
        rw [Nat.zero_add] at hm
        exact ⟨hle.2.2 _ hm, hok _ (List.mem_of_getElem? hq)⟩
    · rw [List.getElem?_append_right (by rw [List.length_map]; omega), List.getElem?_replicate] at hi
      split at hi <;> cases hi
/-- the tables' words on a method that is called by its receiver's class -/
def MOV (d : MD) (n : Nat) : Prop := Cond.instanceMethod (mY d) ∈ TB ∧ Cond.selects (mY d).cls (mY d) (mY d) ∈ TB ∧ Cond.initialized (mY d).cls ∈ TB ∧ Cond.code (mY d) (mC d) (mN d) (mR d) ∈ TB ∧ (mY d).cls ≠ "java/lang/invoke/MethodHandle" ∧ (mY d).cls ≠ "java/lang/invoke/VarHandle" ∧ (parseMethodDescriptor (mY d).desc).map (fun d => d.parameters.length) = some n
def MOS (d : MD) (n : Nat) : Prop := Cond.static (mY d) ∈ TB ∧ Cond.initialized (mY d).cls ∈ TB ∧ Cond.code (mY d) (mC d) (mN d) (mR d) ∈ TB ∧ (mY d).cls ≠ "java/lang/invoke/MethodHandle" ∧ (mY d).cls ≠ "java/lang/invoke/VarHandle" ∧ (parseMethodDescriptor (mY d).desc).map (fun d => d.parameters.length) = some n
theorem pc_blind {D : va_G} {cyI cyZ : ClassId} {adr : Nat → Nat} {sz : Nat} {as : List AV} {σ : Mem} : FrameBlind (PcM D cyI cyZ adr sz as σ) := by
  intro a U g mk h
  obtain ⟨h1, h2, h3, h4, h5⟩ := h
  exact ⟨h1, h2, h3, va_K.moved (u := U) (U := U.calling g mk a) (Vm.Alike.refl U.vm) h4, va_Nw.same (u := U) (U := U.calling g mk a) rfl rfl h5⟩
theorem ws_in {d : MD} (hc : Cond.code (mY d) (mC d) (mN d) (mR d) ∈ TB) : ∀ w ∈ wsM d, w ∈ TB := List.forall_mem_cons.mpr ⟨hc, fun _ h => h⟩
section CALLS
variable {xs : XS} {d : MD} {pc : Nat} {ls : List (Option AV)} {σ : Mem} {Q : Int → Mem → Prop}
theorem cat_map {adr : Nat → Nat} (rest : List AV) : ((rest.map (cv adr)).map fun v => v.category).sum = rest.length := by
  induction rest with
  | nil => rfl
  | cons v t ih => simp only [List.map_cons, List.sum_cons, cv_cat, ih, List.length_cons]; omega
theorem run_V {e9 : MD} {idx r ci n z : Nat} {as rest st0 : List AV} {R9 : Int → Mem → Prop} (hm : MOV e9 n) (hlink : Cond.methodLink (mY d).cls idx (mY e9) ∈ TB) (hr : r < NC) (hk : shp r = (ci, z)) (hc12 : ∃ T N, vwCl[ci]? = some ((mY e9).cls, T, N)) (has : as.length = n) (hroom : mF e9 + 1 ≤ mF d ∧ 8 + (mN e9 + 11) + mL e9 ≤ mL d) (hrest : rest.length ≤ 8) (hst0 : st0 = as.reverse ++ .inr r :: rest) (hd : decode (mC d) pc = .ok (.invokevirtual idx, 3)) (hcm : CM e9 (.inr r :: as) σ R9)
    {p : Program} {l : Launch} {e : Env} {R : Room} {s : State} {m : MethodId} {args : Array Value} {below : List Frame} {meth : Method} {c : Code} {D : va_G} {cyI cyZ : ClassId} {adr : Nat → Nat} {A : Nat → Prop} {cells slots : Nat} (C : CX xs d p l e R s m args meth c D cyI cyZ adr A cells slots) {H : Heap} {locs : List Loc} {lsA : Array Slot} (hR : Rep D cyI cyZ adr σ H) (hL : LH adr (mN d) ls lsA) (hst : ∀ v ∈ st0, okV v) :
    va_Run p l e R s m args below meth c H locs cells slots 0 0 (F0 m pc lsA (st0.map (cv adr))) (rest.map (cv adr)) (QcM (mK e9) D cyI cyZ adr H.size R9 ((Value.ref (adr r)) :: (as.map (cv adr))).toArray) (Aof adr H.size) := by
  obtain ⟨hinst, hsel, hini, hcode, hn1, hn2, hpar⟩ := hm
  obtain ⟨hx, hb, hml, hown, hts, hNW, hK, hDj, hAs, hf, hlo, hcl, hsl, -⟩ := C
  obtain ⟨TT, N, hc⟩ := hc12
  have he : (wsOf cyI cyZ adr σ)[r]? = some (adr r, .inr (ci, (List.range z).map (fv adr σ r))) := by rw [ws_at hr, cell_obj hk (vw_lt hc)]
  have hM := hcm l D cyI cyZ adr H.size hDj.1 (fun v hv => by
    rcases List.mem_cons.mp hv with h | h
    · rw [h]; trivial
    · exact hst v (by rw [hst0]; exact List.mem_append_left _ (List.mem_reverse.mpr h)))
  have hG : GoodIn TB (wsV (mY d).cls idx (mY e9).cls (mY e9) (wsM e9)) := by
    refine tb_good (fun w hw => ?_)
    rcases List.mem_append.mp hw with h | h
    · simp only [List.mem_cons, List.not_mem_nil, or_false] at h
      rcases h with rfl | rfl | rfl | rfl
      · exact hlink
      · exact hinst
      · exact hsel
      · exact hini
    · exact ws_in hcode w h
  refine va_runV (As := as.map (cv adr)) (rest := rest.map (cv adr)) (b := adr r) (n := n) (bytes := mC e9) (maxL := mN e9) (ret := mR e9) (rm := rmM e9) (C := (mY e9).cls) ⟨hx, hb, hml, hown, hts⟩ hM (cwV n hts hG rfl rfl rfl ⟨rfl, hn1, hn2, hpar⟩ ⟨Nat.le_trans hroom.1 hf, Nat.le_trans hroom.2 hlo⟩) ⟨pc_blind, va_recv hK hR.1 hc he, fun U hU hW => ⟨rfl, by rw [hU], by rw [hU]; exact hR, va_K.moved hW.alike hK, va_Nw.warmM hW hNW⟩⟩ rfl (by rw [List.length_map]; exact has) hL.1 ?_ ?_ hd ⟨hcl, hsl⟩
  · rw [hst0]
    simp [cv]
  · exact lv_room (by rw [cat_map]; exact hrest)
theorem run_S {e9 : MD} {idx n : Nat} {as rest st0 : List AV} {R9 : Int → Mem → Prop} (hm : MOS e9 n) (hcls : (mY e9).cls = (mY d).cls) (hlink : Cond.methodLink (mY d).cls idx (mY e9) ∈ TB) (has : as.length = n) (hroom : mF e9 + 1 ≤ mF d ∧ 8 + (mN e9 + 11) + mL e9 ≤ mL d) (hrest : rest.length ≤ 8) (hst0 : st0 = as.reverse ++ rest) (hd : decode (mC d) pc = .ok (.invokestatic idx, 3)) (hcm : CM e9 as σ R9)
    {p : Program} {l : Launch} {e : Env} {R : Room} {s : State} {m : MethodId} {args : Array Value} {below : List Frame} {meth : Method} {c : Code} {D : va_G} {cyI cyZ : ClassId} {adr : Nat → Nat} {A : Nat → Prop} {cells slots : Nat} (C : CX xs d p l e R s m args meth c D cyI cyZ adr A cells slots) {H : Heap} {locs : List Loc} {lsA : Array Slot} (hR : Rep D cyI cyZ adr σ H) (hL : LH adr (mN d) ls lsA) (hst : ∀ v ∈ st0, okV v) :
    va_Run p l e R s m args below meth c H locs cells slots 0 0 (F0 m pc lsA (st0.map (cv adr))) (rest.map (cv adr)) (QcM (mK e9) D cyI cyZ adr H.size R9 (as.map (cv adr)).toArray) (Aof adr H.size) := by
  obtain ⟨hstat, hini, hcode, hn1, hn2, hpar⟩ := hm
  obtain ⟨hx, hb, hml, hown, hts, hNW, hK, hDj, hAs, hf, hlo, hcl, hsl, -⟩ := C
  have hM := hcm l D cyI cyZ adr H.size hDj.1 (fun v hv => hst v (by rw [hst0]; exact List.mem_append_left _ (List.mem_reverse.mpr hv)))
  have hG : GoodIn TB (wsS (mY d).cls idx (mY e9) (wsM e9)) := by
    refine tb_good (fun w hw => ?_)
    rcases List.mem_append.mp hw with h | h
    · simp only [List.mem_cons, List.not_mem_nil, or_false] at h
      rcases h with rfl | rfl | rfl
      · exact hlink
      · exact hstat
      · rw [← hcls]; exact hini
    · exact ws_in hcode w h
  refine va_runS (As := as.map (cv adr)) (rest := rest.map (cv adr)) (n := n) (bytes := mC e9) (maxL := mN e9) (ret := mR e9) (rm := rmM e9) ⟨hx, hb, hml, hown, hts⟩ hM (cwS n hts hG rfl rfl rfl ⟨hcls, hn1, hn2, hpar⟩ ⟨Nat.le_trans hroom.1 hf, Nat.le_trans hroom.2 hlo⟩) ⟨pc_blind, fun U hU hW => ⟨rfl, by rw [hU], by rw [hU]; exact hR, va_K.moved hW.alike hK, va_Nw.warmM hW hNW⟩⟩ rfl (by rw [List.length_map]; exact has) hL.1 ?_ ?_ hd ⟨hcl, hsl⟩
  · rw [hst0]
    simp [cv]
  · exact lv_room (by rw [cat_map]; exact hrest)
theorem run_N {e9 : MD} {idx n : Nat} {as rest st0 : List AV} {R9 : Int → Mem → Prop} (hm : MOS e9 n) (hw9 : Cond.methodLinkNest (mY d).cls idx (mY e9) "ShopsOnFloor" = nwCell) (has : as.length = n) (hroom : mF e9 + 1 ≤ mF d ∧ 8 + (mN e9 + 11) + mL e9 ≤ mL d) (hrest : rest.length ≤ 8) (hst0 : st0 = as.reverse ++ rest) (hd : decode (mC d) pc = .ok (.invokestatic idx, 3)) (hcm : CM e9 as σ R9)
    {p : Program} {l : Launch} {e : Env} {R : Room} {s : State} {m : MethodId} {args : Array Value} {below : List Frame} {meth : Method} {c : Code} {D : va_G} {cyI cyZ : ClassId} {adr : Nat → Nat} {A : Nat → Prop} {cells slots : Nat} (C : CX xs d p l e R s m args meth c D cyI cyZ adr A cells slots) {H : Heap} {locs : List Loc} {lsA : Array Slot} (hR : Rep D cyI cyZ adr σ H) (hL : LH adr (mN d) ls lsA) (hst : ∀ v ∈ st0, okV v) :
    va_Run p l e R s m args below meth c H locs cells slots 0 0 (F0 m pc lsA (st0.map (cv adr))) (rest.map (cv adr)) (QcM (mK e9) D cyI cyZ adr H.size R9 (as.map (cv adr)).toArray) (Aof adr H.size) := by
  obtain ⟨hstat, hini, hcode, hn1, hn2, hpar⟩ := hm
  obtain ⟨hx, hb, hml, hown, hts, hNW, hK, hDj, hAs, hf, hlo, hcl, hsl, -⟩ := C
  have hM := hcm l D cyI cyZ adr H.size hDj.1 (fun v hv => hst v (by rw [hst0]; exact List.mem_append_left _ (List.mem_reverse.mpr hv)))
  have hG : GoodIn TB (wsM e9) := tb_good (fun w hw => ws_in hcode w hw)
  have hNW' : va_Nw (.methodLinkNest (mY d).cls idx (mY e9) "ShopsOnFloor") s := by rw [hw9]; exact hNW
  refine va_runSN (As := as.map (cv adr)) (rest := rest.map (cv adr)) (n := n) (bytes := mC e9) (maxL := mN e9) (ret := mR e9) (rm := rmM e9) (host := "ShopsOnFloor") ⟨hx, hb, hml, hown, hts⟩ hM ⟨va_cnB n hts hG rfl rfl rfl hNW' (hts _ hini) ⟨hn1, hn2, hpar⟩ ⟨Nat.le_trans hroom.1 hf, Nat.le_trans hroom.2 hlo⟩, hts _ hstat, trivial⟩ ⟨pc_blind, fun U hU hW => ⟨rfl, by rw [hU], by rw [hU]; exact hR, va_K.moved hW.alike hK, va_Nw.warmM hW hNW⟩⟩ rfl (by rw [List.length_map]; exact has) hL.1 ?_ ?_ hd ⟨hcl, hsl⟩
  · rw [hst0]
    simp [cv]
  · exact lv_room (by rw [cat_map]; exact hrest)
theorem A_in {xs : XS} {d : MD} {p : Program} {l : Launch} {e : Env} {R : Room} {s : State} {m : MethodId} {args : Array Value} {meth : Method} {c : Code} {D : va_G} {cyI cyZ : ClassId} {adr : Nat → Nat} {A : Nat → Prop} {cells slots : Nat} (C : CX xs d p l e R s m args meth c D cyI cyZ adr A cells slots) {H : Heap} {locs : List Loc} (hS : va_S A s.heap H locs) : ∀ q, Aof adr H.size q → A q := by
  intro q h
  rcases h with ⟨k, hk, rfl⟩ | h
  · exact C.2.2.2.2.2.2.2.1.2 k hk
  · exact C.2.2.2.2.2.2.2.2.1 q (Nat.le_trans hS.1 h)
theorem g_invVI {e9 : MD} {idx r ci n z : Nat} {as rest st0 : List AV} {R9 : Int → Mem → Prop} (hm : MOV e9 n) (hlink : Cond.methodLink (mY d).cls idx (mY e9) ∈ TB) (hr : r < NC) (hsh : shp r = (ci, z)) (hc12 : ∃ T N, vwCl[ci]? = some ((mY e9).cls, T, N)) (has : as.length = n) (hroom : mF e9 + 1 ≤ mF d ∧ 8 + (mN e9 + 11) + mL e9 ≤ mL d) (hrest : rest.length ≤ 8) (hst0 : st0 = as.reverse ++ .inr r :: rest) (hd : decode (mC d) pc = .ok (.invokevirtual idx, 3)) (hcm : CM e9 (.inr r :: as) σ R9) (hkd : mK e9 = 0 ∨ mK e9 = 3) (kk : ∀ v σ1, R9 v σ1 → GO xs d (pc + 3) ls (.inl v :: rest) σ1 Q) : GO xs d pc ls st0 σ Q := by
  intro p l e R s m args below meth c D cyI cyZ adr A cells slots QF C RT0 H locs lsA hR hS hL hst
  have hrun := run_V (below := below) (locs := locs) hm hlink hr hsh hc12 has hroom hrest hst0 hd hcm C hR hL hst
  have hst1 : ∀ v ∈ rest, okV v := fun v hv => hst v (by rw [hst0]; exact List.mem_append_right _ (List.mem_cons_of_mem _ hv))
  have hq9 : QcM (mK e9) D cyI cyZ adr H.size R9 = va_Qi (S := Int × Mem) (fun r u => r = Int32.ofInt u.1 ∧ inR u.1 ∧ R9 u.1 u.2) (fun u t => Rep D cyI cyZ adr u.2 t.heap) (Aof adr H.size) := by
    rcases hkd with h | h <;> rw [h] <;> rfl
  rw [hq9] at hrun
  refine va_calli hrun hS (fun q _ h => A_in C hS q h) (A_in C hS) (fun v32 u t H1 locs1 ht hvm hp hB hz hk1 hS1 => ?_)
  obtain ⟨rfl, hin, hp⟩ := hp
  rw [ht] at hB
  exact kk u.1 u.2 hp p l e R s m args below meth c D cyI cyZ adr A cells slots QF C RT0 H1 locs1 lsA hB hS1 hL (okcons hin hst1)
theorem g_invVV {e9 : MD} {idx r ci n z : Nat} {as rest st0 : List AV} {R9 : Int → Mem → Prop} (hm : MOV e9 n) (hlink : Cond.methodLink (mY d).cls idx (mY e9) ∈ TB) (hr : r < NC) (hsh : shp r = (ci, z)) (hc12 : ∃ T N, vwCl[ci]? = some ((mY e9).cls, T, N)) (has : as.length = n) (hroom : mF e9 + 1 ≤ mF d ∧ 8 + (mN e9 + 11) + mL e9 ≤ mL d) (hrest : rest.length ≤ 8) (hst0 : st0 = as.reverse ++ .inr r :: rest) (hd : decode (mC d) pc = .ok (.invokevirtual idx, 3)) (hcm : CM e9 (.inr r :: as) σ R9) (hkd : mK e9 = 1) (kk : ∀ σ1, R9 0 σ1 → GO xs d (pc + 3) ls rest σ1 Q) : GO xs d pc ls st0 σ Q := by
  intro p l e R s m args below meth c D cyI cyZ adr A cells slots QF C RT0 H locs lsA hR hS hL hst
  have hrun := run_V (below := below) (locs := locs) hm hlink hr hsh hc12 has hroom hrest hst0 hd hcm C hR hL hst
  have hst1 : ∀ v ∈ rest, okV v := fun v hv => hst v (by rw [hst0]; exact List.mem_append_right _ (List.mem_cons_of_mem _ hv))
  have hq9 : QcM (mK e9) D cyI cyZ adr H.size R9 = va_Qv (S := Mem) (fun u => R9 0 u) (fun u t => Rep D cyI cyZ adr u t.heap) (Aof adr H.size) := by rw [hkd]; rfl
  rw [hq9] at hrun
  refine va_callv hrun hS (fun q _ h => A_in C hS q h) (A_in C hS) (fun u t H1 locs1 ht hvm hp hB hz hk1 hS1 => ?_)
  rw [ht] at hB
  exact kk u hp p l e R s m args below meth c D cyI cyZ adr A cells slots QF C RT0 H1 locs1 lsA hB hS1 hL hst1
theorem g_invVR {e9 : MD} {idx r ci n z : Nat} {as rest st0 : List AV} {R9 : Int → Mem → Prop} (hm : MOV e9 n) (hlink : Cond.methodLink (mY d).cls idx (mY e9) ∈ TB) (hr : r < NC) (hsh : shp r = (ci, z)) (hc12 : ∃ T N, vwCl[ci]? = some ((mY e9).cls, T, N)) (has : as.length = n) (hroom : mF e9 + 1 ≤ mF d ∧ 8 + (mN e9 + 11) + mL e9 ≤ mL d) (hrest : rest.length ≤ 8) (hst0 : st0 = as.reverse ++ .inr r :: rest) (hd : decode (mC d) pc = .ok (.invokevirtual idx, 3)) (hcm : CM e9 (.inr r :: as) σ R9) (hkd : mK e9 = 2) (kk : ∀ (r1 : Nat) σ1, R9 (r1 : Int) σ1 → GO xs d (pc + 3) ls (.inr r1 :: rest) σ1 Q) : GO xs d pc ls st0 σ Q := by
  intro p l e R s m args below meth c D cyI cyZ adr A cells slots QF C RT0 H locs lsA hR hS hL hst
  have hrun := run_V (below := below) (locs := locs) hm hlink hr hsh hc12 has hroom hrest hst0 hd hcm C hR hL hst
  have hst1 : ∀ v ∈ rest, okV v := fun v hv => hst v (by rw [hst0]; exact List.mem_append_right _ (List.mem_cons_of_mem _ hv))
  have hq9 : QcM (mK e9) D cyI cyZ adr H.size R9 = va_Qr (S := Nat × Mem) (fun u => R9 (u.1 : Int) u.2) (fun u a t => a = adr u.1 ∧ Rep D cyI cyZ adr u.2 t.heap) (Aof adr H.size) := by rw [hkd]; rfl
  rw [hq9] at hrun
  refine va_callr hrun hS (fun q _ h => A_in C hS q h) (A_in C hS) (fun u a t H1 locs1 ht hvm hp hB hz hk1 hS1 => ?_)
  obtain ⟨rfl, hB⟩ := hB
  rw [ht] at hB
  exact kk u.1 u.2 hp p l e R s m args below meth c D cyI cyZ adr A cells slots QF C RT0 H1 locs1 lsA hB hS1 hL (okcons trivial hst1)
theorem g_invSI {e9 : MD} {idx n : Nat} {as rest st0 : List AV} {R9 : Int → Mem → Prop} (hm : MOS e9 n) (hcls : (mY e9).cls = (mY d).cls) (hlink : Cond.methodLink (mY d).cls idx (mY e9) ∈ TB) (has : as.length = n) (hroom : mF e9 + 1 ≤ mF d ∧ 8 + (mN e9 + 11) + mL e9 ≤ mL d) (hrest : rest.length ≤ 8) (hst0 : st0 = as.reverse ++ rest) (hd : decode (mC d) pc = .ok (.invokestatic idx, 3)) (hcm : CM e9 as σ R9) (hkd : mK e9 = 0 ∨ mK e9 = 3) (kk : ∀ v σ1, R9 v σ1 → GO xs d (pc + 3) ls (.inl v :: rest) σ1 Q) : GO xs d pc ls st0 σ Q := by
  intro p l e R s m args below meth c D cyI cyZ adr A cells slots QF C RT0 H locs lsA hR hS hL hst
  have hrun := run_S (below := below) (locs := locs) hm hcls hlink has hroom hrest hst0 hd hcm C hR hL hst
  have hst1 : ∀ v ∈ rest, okV v := fun v hv => hst v (by rw [hst0]; exact List.mem_append_right _ hv)
  have hq9 : QcM (mK e9) D cyI cyZ adr H.size R9 = va_Qi (S := Int × Mem) (fun r u => r = Int32.ofInt u.1 ∧ inR u.1 ∧ R9 u.1 u.2) (fun u t => Rep D cyI cyZ adr u.2 t.heap) (Aof adr H.size) := by
    rcases hkd with h | h <;> rw [h] <;> rfl
  rw [hq9] at hrun
  refine va_calli hrun hS (fun q _ h => A_in C hS q h) (A_in C hS) (fun v32 u t H1 locs1 ht hvm hp hB hz hk1 hS1 => ?_)
  obtain ⟨rfl, hin, hp⟩ := hp
  rw [ht] at hB
  exact kk u.1 u.2 hp p l e R s m args below meth c D cyI cyZ adr A cells slots QF C RT0 H1 locs1 lsA hB hS1 hL (okcons hin hst1)
theorem g_invSV {e9 : MD} {idx n : Nat} {as rest st0 : List AV} {R9 : Int → Mem → Prop} (hm : MOS e9 n) (hcls : (mY e9).cls = (mY d).cls) (hlink : Cond.methodLink (mY d).cls idx (mY e9) ∈ TB) (has : as.length = n) (hroom : mF e9 + 1 ≤ mF d ∧ 8 + (mN e9 + 11) + mL e9 ≤ mL d) (hrest : rest.length ≤ 8) (hst0 : st0 = as.reverse ++ rest) (hd : decode (mC d) pc = .ok (.invokestatic idx, 3)) (hcm : CM e9 as σ R9) (hkd : mK e9 = 1) (kk : ∀ σ1, R9 0 σ1 → GO xs d (pc + 3) ls rest σ1 Q) : GO xs d pc ls st0 σ Q := by
  intro p l e R s m args below meth c D cyI cyZ adr A cells slots QF C RT0 H locs lsA hR hS hL hst
  have hrun := run_S (below := below) (locs := locs) hm hcls hlink has hroom hrest hst0 hd hcm C hR hL hst
  have hst1 : ∀ v ∈ rest, okV v := fun v hv => hst v (by rw [hst0]; exact List.mem_append_right _ hv)
  have hq9 : QcM (mK e9) D cyI cyZ adr H.size R9 = va_Qv (S := Mem) (fun u => R9 0 u) (fun u t => Rep D cyI cyZ adr u t.heap) (Aof adr H.size) := by rw [hkd]; rfl
  rw [hq9] at hrun
  refine va_callv hrun hS (fun q _ h => A_in C hS q h) (A_in C hS) (fun u t H1 locs1 ht hvm hp hB hz hk1 hS1 => ?_)
  rw [ht] at hB
  exact kk u hp p l e R s m args below meth c D cyI cyZ adr A cells slots QF C RT0 H1 locs1 lsA hB hS1 hL hst1
theorem g_invNI {e9 : MD} {idx n : Nat} {as rest st0 : List AV} {R9 : Int → Mem → Prop} (hm : MOS e9 n) (hw9 : Cond.methodLinkNest (mY d).cls idx (mY e9) "ShopsOnFloor" = nwCell) (has : as.length = n) (hroom : mF e9 + 1 ≤ mF d ∧ 8 + (mN e9 + 11) + mL e9 ≤ mL d) (hrest : rest.length ≤ 8) (hst0 : st0 = as.reverse ++ rest) (hd : decode (mC d) pc = .ok (.invokestatic idx, 3)) (hcm : CM e9 as σ R9) (hkd : mK e9 = 0 ∨ mK e9 = 3) (kk : ∀ v σ1, R9 v σ1 → GO xs d (pc + 3) ls (.inl v :: rest) σ1 Q) : GO xs d pc ls st0 σ Q := by
  intro p l e R s m args below meth c D cyI cyZ adr A cells slots QF C RT0 H locs lsA hR hS hL hst
  have hrun := run_N (below := below) (locs := locs) hm hw9 has hroom hrest hst0 hd hcm C hR hL hst
  have hst1 : ∀ v ∈ rest, okV v := fun v hv => hst v (by rw [hst0]; exact List.mem_append_right _ hv)
  have hq9 : QcM (mK e9) D cyI cyZ adr H.size R9 = va_Qi (S := Int × Mem) (fun r u => r = Int32.ofInt u.1 ∧ inR u.1 ∧ R9 u.1 u.2) (fun u t => Rep D cyI cyZ adr u.2 t.heap) (Aof adr H.size) := by
    rcases hkd with h | h <;> rw [h] <;> rfl
  rw [hq9] at hrun
  refine va_calli hrun hS (fun q _ h => A_in C hS q h) (A_in C hS) (fun v32 u t H1 locs1 ht hvm hp hB hz hk1 hS1 => ?_)
  obtain ⟨rfl, hin, hp⟩ := hp
  rw [ht] at hB
  exact kk u.1 u.2 hp p l e R s m args below meth c D cyI cyZ adr A cells slots QF C RT0 H1 locs1 lsA hB hS1 hL (okcons hin hst1)
end CALLS
