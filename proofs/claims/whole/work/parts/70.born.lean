/-! ===== objects are made: the world grows ===== -/
def fvB (adr : Nat → Nat) (σ : Mem) (k j : Nat) : Value := match rfs k j with
  | some r => if σ k j = 0 then .null else .ref (adr r)
  | none => .int (Int32.ofInt (σ k j))
def cellB (cyI cyZ : ClassId) (adr : Nat → Nat) (σ : Mem) (k : Nat) : va_E :=
  if (shp k).1 < 12 then .inr ((shp k).1, (List.range (shp k).2).map (fvB adr σ k)) else .inl (if (shp k).1 = 12 then cyI else cyZ, (shp k).2, .inl (fun j => Int32.ofInt (σ k j)))
def wsB (cyI cyZ : ClassId) (adr : Nat → Nat) (σ : Mem) (n : Nat) : va_W := (List.range n).map (fun k => (adr k, cellB cyI cyZ adr σ k))
/-- a field that is set names a cell that is made -/
def flB (n : Nat) (σ : Mem) : Prop := ∀ k j r, k < n → rfs k j = some r → σ k j ≠ 0 → r < n
def RepB (D : va_G) (cyI cyZ : ClassId) (adr : Nat → Nat) (n : Nat) (σ : Mem) (H : Heap) : Prop := va_P D vwCl (wsB cyI cyZ adr σ n) H ∧ (∀ k j, inR (σ k j)) ∧ flB n σ
def DjB (A : Nat → Prop) (adr : Nat → Nat) (n : Nat) : Prop := (∀ i j, i < n → j < n → adr i = adr j → i = j) ∧ ∀ k, k < n → A (adr k)
/-- the addresses so far, and the script's, stay -/
def AG (n : Nat) (a b : Nat → Nat) : Prop := ∀ k, k < n ∨ k = NC → b k = a k
theorem AG.rf {n : Nat} {a : Nat → Nat} : AG n a a := fun _ _ => rfl
theorem AG.tr {n n1 : Nat} {a b c : Nat → Nat} (h : AG n a b) (h1 : AG n1 b c) (hn : n ≤ n1) : AG n a c := fun k hk => (h1 k (hk.imp (fun h => by omega) id)).trans (h k hk)
def zr (n : Nat) (σ : Mem) : Mem := fun a b => if a = n then 0 else σ a b
def ap (adr : Nat → Nat) (n q : Nat) : Nat → Nat := fun k => if k = n then q else adr k
def SM : Nat → Nat
  | 0 => 0
  | n + 1 => SM n + (shp n).2
theorem SM_le {a : Nat} : ∀ {b : Nat}, a ≤ b → SM a ≤ SM b
  | 0, h => by rw [Nat.le_zero.mp h]; exact Nat.le_refl _
  | b + 1, h => by
    by_cases e : a = b + 1
    · rw [e]; exact Nat.le_refl _
    · have := SM_le (b := b) (by omega : a ≤ b)
      show SM a ≤ SM b + (shp b).2
      omega
theorem wsB_at {cyI cyZ : ClassId} {adr : Nat → Nat} {σ : Mem} {n k : Nat} (h : k < n) : (wsB cyI cyZ adr σ n)[k]? = some (adr k, cellB cyI cyZ adr σ k) := by
  simp [wsB, h]
theorem wsB_at_inv {cyI cyZ : ClassId} {adr : Nat → Nat} {σ : Mem} {n k : Nat} {q : Nat × va_E} (h : (wsB cyI cyZ adr σ n)[k]? = some q) : k < n ∧ q = (adr k, cellB cyI cyZ adr σ k) := by
  have hl := (List.getElem?_eq_some_iff.mp h).1
  have hk : k < n := by simpa [wsB] using hl
  rw [wsB_at hk] at h
  exact ⟨hk, (Option.some.inj h).symm⟩
theorem DjB.D {A : Nat → Prop} {adr : Nat → Nat} {n : Nat} (h : DjB A adr n) (cyI cyZ : ClassId) (σ : Mem) : va_D A (wsB cyI cyZ adr σ n) := by
  refine ⟨fun i j p q hi hj hpq => ?_, fun k q hk => ?_⟩
  · obtain ⟨h1, rfl⟩ := wsB_at_inv hi
    obtain ⟨h2, rfl⟩ := wsB_at_inv hj
    exact h.1 i j h1 h2 hpq
  · obtain ⟨h1, rfl⟩ := wsB_at_inv hk
    exact h.2 k h1
theorem cellB_cong {cyI cyZ : ClassId} {adr adr' : Nat → Nat} {σ σ' : Mem} {n k : Nat} (hk : k < n) (hσ : ∀ j, σ' k j = σ k j) (hfl : flB n σ) (ha : ∀ r, r < n → adr' r = adr r) : cellB cyI cyZ adr' σ' k = cellB cyI cyZ adr σ k := by
  unfold cellB
  have e1 : fvB adr' σ' k = fvB adr σ k := by
    funext j
    unfold fvB
    rw [hσ j]
    have hr : ∀ r, rfs k j = some r → σ k j ≠ 0 → adr' r = adr r := fun r h z => ha r (hfl k j r hk h z)
    generalize rfs k j = o at hr
    cases o with
    | none => rfl
    | some r =>
      show (if σ k j = 0 then Value.null else Value.ref (adr' r)) = (if σ k j = 0 then Value.null else Value.ref (adr r))
      by_cases z : σ k j = 0
      · rw [if_pos z, if_pos z]
      · rw [if_neg z, if_neg z, hr r rfl z]
  have e2 : σ' k = σ k := funext hσ
  rw [e1, e2]
theorem wsB_new {cyI cyZ : ClassId} {adr : Nat → Nat} {σ : Mem} {n q : Nat} (hfl : flB n σ) : wsB cyI cyZ (ap adr n q) (zr n σ) (n + 1) = wsB cyI cyZ adr σ n ++ [(q, cellB cyI cyZ (ap adr n q) (zr n σ) n)] := by
  unfold wsB
  rw [List.range_succ, List.map_append]
  congr 1
  · refine List.map_congr_left (fun k hk => ?_)
    have hk := List.mem_range.mp hk
    have e1 : ∀ r, r < n → ap adr n q r = adr r := fun r hr => if_neg (by omega)
    rw [e1 k hk, cellB_cong hk (fun j => if_neg (by omega)) hfl e1]
  · show [(ap adr n q n, _)] = _
    rw [show ap adr n q n = q from if_pos rfl]
theorem wsB_set {cyI cyZ : ClassId} {adr : Nat → Nat} {σ σ' : Mem} {n k : Nat} (hk : k < n) (ho : ∀ a, a ≠ k → ∀ b, σ' a b = σ a b) : (wsB cyI cyZ adr σ n).set k (adr k, cellB cyI cyZ adr σ' k) = wsB cyI cyZ adr σ' n := by
  apply List.ext_getElem?
  intro i
  by_cases h : i = k
  · subst h
    rw [List.getElem?_set_self (by simpa [wsB] using hk), wsB_at hk]
  · rw [List.getElem?_set_ne (Ne.symm h)]
    by_cases hi : i < n
    · rw [wsB_at hi, wsB_at hi]
      have e : cellB cyI cyZ adr σ i = cellB cyI cyZ adr σ' i := by
        unfold cellB
        have e1 : fvB adr σ i = fvB adr σ' i := by
          funext j
          unfold fvB
          rw [ho i h j]
        have e2 : σ i = σ' i := by funext j; exact (ho i h j).symm
        rw [e1, e2]
      rw [e]
    · have n1 : ∀ σ : Mem, (wsB cyI cyZ adr σ n)[i]? = none := fun σ => by
        rw [List.getElem?_eq_none_iff]
        simp [wsB]
        omega
      rw [n1, n1]
theorem cellB_obj {cyI cyZ : ClassId} {adr : Nat → Nat} {σ : Mem} {r ci n : Nat} (hk : shp r = (ci, n)) (h12 : ci < 12) : cellB cyI cyZ adr σ r = .inr (ci, (List.range n).map (fvB adr σ r)) := by
  unfold cellB
  rw [hk, if_pos h12]
theorem cellB_ari {cyI cyZ : ClassId} {adr : Nat → Nat} {σ : Mem} {r n : Nat} (hk : shp r = (12, n)) : cellB cyI cyZ adr σ r = .inl (cyI, n, .inl (fun j => Int32.ofInt (σ r j))) := by
  unfold cellB
  rw [hk, if_neg (show ¬ (12 : Nat) < 12 by decide), if_pos rfl]
theorem cellB_arz {cyI cyZ : ClassId} {adr : Nat → Nat} {σ : Mem} {r n : Nat} (hk : shp r = (13, n)) : cellB cyI cyZ adr σ r = .inl (cyZ, n, .inl (fun j => Int32.ofInt (σ r j))) := by
  unfold cellB
  rw [hk, if_neg (show ¬ (13 : Nat) < 12 by decide), if_neg (show ¬ (13 : Nat) = 12 by decide)]
def okB (n : Nat) : AV → Prop
  | .inl v => inR v
  | .inr k => k < n ∨ k = NC
theorem okB.V {n : Nat} {v : AV} (h : okB n v) : okV v := by
  cases v with
  | inl v => exact h
  | inr k => trivial
theorem okB.up {n n1 : Nat} {v : AV} (h : okB n v) (hn : n ≤ n1) : okB n1 v := by
  cases v with
  | inl v => exact h
  | inr k => exact h.imp (fun h => Nat.lt_of_lt_of_le h hn) id
theorem cv_ag {n : Nat} {adr adr' : Nat → Nat} (h : AG n adr adr') {v : AV} (hv : okB n v) : cv adr' v = cv adr v := by
  cases v with
  | inl v => rfl
  | inr k => show Value.ref (adr' k) = Value.ref (adr k); rw [h k hv]
theorem map_ag {n : Nat} {adr adr' : Nat → Nat} (h : AG n adr adr') {st : List AV} (hst : ∀ v ∈ st, okB n v) : st.map (cv adr') = st.map (cv adr) := List.map_congr_left (fun v hv => cv_ag h (hst v hv))
def LHB (adr : Nat → Nat) (n nL : Nat) (ls : List (Option AV)) (lsA : Array Slot) : Prop := LH adr nL ls lsA ∧ ∀ (i k : Nat), ls[i]? = some (some (.inr k)) → k < n ∨ k = NC
theorem LHB.up {adr adr' : Nat → Nat} {n n1 nL : Nat} {ls : List (Option AV)} {lsA : Array Slot} (h : LHB adr n nL ls lsA) (ha : AG n adr adr') (hn : n ≤ n1) : LHB adr' n1 nL ls lsA := by
  refine ⟨⟨h.1.1, h.1.2.1, h.1.2.2.1, fun i v hv => ?_⟩, fun i k hk => (h.2 i k hk).imp (fun h => Nat.lt_of_lt_of_le h hn) id⟩
  have h2 := h.1.2.2.2 i v hv
  refine ⟨?_, h2.2⟩
  rw [cv_ag ha]
  · exact h2.1
  · cases v with
    | inl v => exact h2.2
    | inr k => exact h.2 i k hv
/-- the links to private constructors of nest mates -/
def nestL : List (String × Nat × MethodName) := [("ShopsOnFloor", 11, yX2_init), ("ShopsOnFloor", 18, yX9_init), ("ShopsOnFloor", 73, yX8_init), ("ShopsOnFloor$Chooser", 11, yX8_init), ("ShopsOnFloor$Climber", 11, yX8_init), ("ShopsOnFloor$Mover", 11, yX8_init), ("ShopsOnFloor$Planner", 11, yX8_init), ("ShopsOnFloor$Ground", 66, ⟨"ShopsOnFloor", "cellAt", "(II)I"⟩)]
def NWs (U : State) : Prop := ∀ q ∈ nestL, va_Nw (.methodLinkNest q.1 q.2.1 q.2.2 "ShopsOnFloor") U
theorem NWs.same {u U : State} (h : u.vm = U.vm) (hN : NWs u) : NWs U := fun q hq => va_Nw.same rfl h (hN q hq)
theorem NWs.warm {s U : State} (hW : s.WarmedH U.vm) (hN : NWs s) : NWs U := fun q hq => va_Nw.warmM hW (hN q hq)
theorem NWs.nw {U : State} (hN : NWs U) : NW U := hN ("ShopsOnFloor$Ground", 66, ⟨"ShopsOnFloor", "cellAt", "(II)I"⟩) (by simp [nestL])
def CXB (xs : XS) (d : MD) (n0 hi : Nat) (adr0 : Nat → Nat) (p : Program) (l : Launch) (e : Env) (R : Room) (s : State) (m : MethodId) (args : Array Value) (meth : Method) (c : Code) (D : va_G) (cyI cyZ : ClassId) (A : Nat → Prop) : Prop :=
  p.tables.exec = Jvm.exec ∧ c.code = mC d ∧ c.maxLocals = mN d ∧ s.vm.findClass (mY d).cls = some m.cls ∧ (∀ w ∈ TB, w.before args s = true) ∧ NWs s ∧ va_K D vwCl (tysOf cyI cyZ) s ∧ (∀ q, s.heap.size ≤ q → A q) ∧ mF d ≤ R.frames ∧ mL d ≤ R.locals ∧ hi - n0 ≤ R.cells ∧ SM hi - SM n0 ≤ R.slots ∧ ((mY d).name = "<init>" → meth.name = "<init>") ∧
  ∀ L f, xs = some (L, f) → va_X (adr0 NC) L (fun j => Int32.ofInt (f j)) s s.heap ∧ adr0 NC < s.heap.size ∧ ¬ A (adr0 NC) ∧ L < 2147483648 ∧ ∀ j, inR (f j)
def RepX (xs : XS) (D : va_G) (cyI cyZ : ClassId) (adr : Nat → Nat) (n : Nat) (σ : Mem) (H : Heap) : Prop := match xs with
  | none => RepB D cyI cyZ adr n σ H
  | some _ => Rep D cyI cyZ adr σ H
def RTB (xs : XS) (d : MD) (n0 hi : Nat) (adr0 : Nat → Nat) (p : Program) (l : Launch) (e : Env) (R : Room) (s : State) (m : MethodId) (args : Array Value) (below : List Frame) (meth : Method) (c : Code) (D : va_G) (cyI cyZ : ClassId) (A : Nat → Prop) (QF : State → Prop) (Q : Int → Mem → Prop) : Prop :=
  ∀ (pc : Nat) (H : Heap) (locs : List Loc) (lsA : Array Slot) (st : List AV) (v : Int) (σ : Mem) (adr : Nat → Nat), retOK d pc st v → RepX xs D cyI cyZ adr hi σ H → DjB A adr hi → AG n0 adr0 adr → va_S A s.heap H locs → Q v σ → W p l e R s m args below meth c H locs (hi - n0) (SM hi - SM n0) QF (F0 m pc lsA (st.map (cv adr)))
/-- from this point of a body that makes cells (n are made, hi will be) it ends, and the memory is as Q says -/
def GW (xs : XS) (d : MD) (n0 hi : Nat) (pc : Nat) (ls : List (Option AV)) (st : List AV) (n : Nat) (σ : Mem) (Q : Int → Mem → Prop) : Prop :=
  ∀ (p : Program) (l : Launch) (e : Env) (R : Room) (s : State) (m : MethodId) (args : Array Value) (below : List Frame) (meth : Method) (c : Code) (D : va_G) (cyI cyZ : ClassId) (A : Nat → Prop) (QF : State → Prop) (adr0 : Nat → Nat),
    CXB xs d n0 hi adr0 p l e R s m args meth c D cyI cyZ A → RTB xs d n0 hi adr0 p l e R s m args below meth c D cyI cyZ A QF Q →
    ∀ (H : Heap) (locs : List Loc) (lsA : Array Slot) (adr : Nat → Nat), RepB D cyI cyZ adr n σ H → DjB A adr n → AG n0 adr0 adr → va_S A s.heap H locs → LHB adr n (mN d) ls lsA → (∀ v ∈ st, okB n v) → W p l e R s m args below meth c H locs (n - n0) (SM n - SM n0) QF (F0 m pc lsA (st.map (cv adr)))
section BORN
variable {xs : XS} {d : MD} {n0 hi pc : Nat} {ls : List (Option AV)} {st : List AV} {n : Nat} {σ : Mem} {Q : Int → Mem → Prop}
theorem okBc {v : AV} (h : okB n v) (hs : ∀ v ∈ st, okB n v) : ∀ w ∈ v :: st, okB n w := List.forall_mem_cons.mpr ⟨h, hs⟩
theorem okB_ls {adr : Nat → Nat} {lsA : Array Slot} {nL i : Nat} {v : AV} (h : LHB adr n nL ls lsA) (hl : ls[i]? = some (some v)) : okB n v := by
  cases v with
  | inl v => exact h.1.ok hl
  | inr k => exact h.2 i k hl
theorem gb_aload_n {i : Nat} {i4 : Fin 4} {r : Nat} (hd : decode (mC d) pc = .ok (.aload_n i4, 1)) (hi4 : (i4 : Nat) = i) (hl : ls[i]? = some (some (.inr r))) (k : GW xs d n0 hi (pc + 1) ls (.inr r :: st) n σ Q) : GW xs d n0 hi pc ls st n σ Q := by
  intro p l e R s m args below meth c D cyI cyZ A QF adr0 C RT0 H locs lsA adr hR hD hG hS hL hst
  exact lv_aload_n C.1 C.2.1 hd hi4 (hL.1.at' hl) (k p l e R s m args below meth c D cyI cyZ A QF adr0 C RT0 H locs lsA adr hR hD hG hS hL (okBc (okB_ls hL hl) hst))
theorem gb_iload_n {i : Nat} {i4 : Fin 4} {v : Int} (hd : decode (mC d) pc = .ok (.iload_n i4, 1)) (hi4 : (i4 : Nat) = i) (hl : ls[i]? = some (some (.inl v))) (k : GW xs d n0 hi (pc + 1) ls (.inl v :: st) n σ Q) : GW xs d n0 hi pc ls st n σ Q := by
  intro p l e R s m args below meth c D cyI cyZ A QF adr0 C RT0 H locs lsA adr hR hD hG hS hL hst
  exact lv_iload_n C.1 C.2.1 hd hi4 (hL.1.at' hl) (k p l e R s m args below meth c D cyI cyZ A QF adr0 C RT0 H locs lsA adr hR hD hG hS hL (okBc (okB_ls hL hl) hst))
theorem gb_dup {v : AV} (hd : decode (mC d) pc = .ok (.dup, 1)) (k : GW xs d n0 hi (pc + 1) ls (v :: v :: st) n σ Q) : GW xs d n0 hi pc ls (v :: st) n σ Q := by
  intro p l e R s m args below meth c D cyI cyZ A QF adr0 C RT0 H locs lsA adr hR hD hG hS hL hst
  have hv := List.forall_mem_cons.mp hst
  exact lv_dup C.1 C.2.1 hd (cv_cat adr v) (k p l e R s m args below meth c D cyI cyZ A QF adr0 C RT0 H locs lsA adr hR hD hG hS hL (okBc hv.1 hst))
theorem gb_iconst {z : Int} (hd : decode (mC d) pc = .ok (.iconst z, 1)) (hz : inR z) (k : GW xs d n0 hi (pc + 1) ls (.inl z :: st) n σ Q) : GW xs d n0 hi pc ls st n σ Q := by
  intro p l e R s m args below meth c D cyI cyZ A QF adr0 C RT0 H locs lsA adr hR hD hG hS hL hst
  exact lv_iconst (v := Int32.ofInt z) C.1 C.2.1 hd rfl (k p l e R s m args below meth c D cyI cyZ A QF adr0 C RT0 H locs lsA adr hR hD hG hS hL (okBc hz hst))
theorem gb_bipush {z : Int} (hd : decode (mC d) pc = .ok (.bipush z, 2)) (hz : inR z) (he : (Int8.ofInt z).toInt32 = Int32.ofInt z) (k : GW xs d n0 hi (pc + 2) ls (.inl z :: st) n σ Q) : GW xs d n0 hi pc ls st n σ Q := by
  intro p l e R s m args below meth c D cyI cyZ A QF adr0 C RT0 H locs lsA adr hR hD hG hS hL hst
  exact lv_bipush (v := Int32.ofInt z) C.1 C.2.1 hd he (k p l e R s m args below meth c D cyI cyZ A QF adr0 C RT0 H locs lsA adr hR hD hG hS hL (okBc hz hst))
theorem gb_sipush {z : Int} (hd : decode (mC d) pc = .ok (.sipush z, 3)) (hz : inR z) (he : (Int16.ofInt z).toInt32 = Int32.ofInt z) (k : GW xs d n0 hi (pc + 3) ls (.inl z :: st) n σ Q) : GW xs d n0 hi pc ls st n σ Q := by
  intro p l e R s m args below meth c D cyI cyZ A QF adr0 C RT0 H locs lsA adr hR hD hG hS hL hst
  exact lv_sipush (v := Int32.ofInt z) C.1 C.2.1 hd he (k p l e R s m args below meth c D cyI cyZ A QF adr0 C RT0 H locs lsA adr hR hD hG hS hL (okBc hz hst))
theorem gb_goto {off : Int} {tgt : Nat} (hd : decode (mC d) pc = .ok (.goto off, 3)) (ht : (pc : Int) + off = (tgt : Int)) (k : GW xs d n0 hi tgt ls st n σ Q) : GW xs d n0 hi pc ls st n σ Q := by
  intro p l e R s m args below meth c D cyI cyZ A QF adr0 C RT0 H locs lsA adr hR hD hG hS hL hst
  exact lv_goto C.1 C.2.1 hd ht (k p l e R s m args below meth c D cyI cyZ A QF adr0 C RT0 H locs lsA adr hR hD hG hS hL hst)
theorem gb_if_ge {a : Int} {off : Int} {tgt : Nat} (hd : decode (mC d) pc = .ok (.ifCond .ge off, 3)) (ht : (pc : Int) + off = (tgt : Int)) (ha0 : 0 ≤ a) (kt : GW xs d n0 hi tgt ls st n σ Q) : GW xs d n0 hi pc ls (.inl a :: st) n σ Q := by
  intro p l e R s m args below meth c D cyI cyZ A QF adr0 C RT0 H locs lsA adr hR hD hG hS hL hst
  have hv := List.forall_mem_cons.mp hst
  have ha : inR a := hv.1
  have hb : inR 0 := by decide
  refine lv_if_ge (x := Int32.ofInt a) C.1 C.2.1 hd ht (fun h => kt p l e R s m args below meth c D cyI cyZ A QF adr0 C RT0 H locs lsA adr hR hD hG hS hL hv.2) (fun h => ?_)
  simp only [ne_eq, ge_iff_le, gt_iff_lt, ← ofI_0, ofI_eq ha hb, ofI_lt ha hb, ofI_le ha hb, ofI_lt hb ha, ofI_le hb ha] at h
  omega
theorem gb_astore_n {i : Nat} {i4 : Fin 4} {r : Nat} {ls' : List (Option AV)} (hd : decode (mC d) pc = .ok (.astore_n i4, 1)) (h4 : (i4 : Nat) = i) (hi4 : i < mN d) (he : ls.set i (some (.inr r)) = ls') (k : GW xs d n0 hi (pc + 1) ls' st n σ Q) : GW xs d n0 hi pc ls (.inr r :: st) n σ Q := by
  intro p l e R s m args below meth c D cyI cyZ A QF adr0 C RT0 H locs lsA adr hR hD hG hS hL hst
  subst he
  have hv := List.forall_mem_cons.mp hst
  refine lv_astore_n C.1 C.2.1 hd h4 hL.1.has hi4 rfl (fun lsB hB => k p l e R s m args below meth c D cyI cyZ A QF adr0 C RT0 H locs lsB adr hR hD hG hS ⟨hL.1.set (v := .inr r) hi4 trivial hB, fun j x hj => ?_⟩ hv.2)
  by_cases e9 : j = i
  · subst e9
    rw [List.getElem?_set_self (by rw [hL.1.2.2.1]; exact hi4)] at hj
    cases hj
    exact hv.1
  · rw [List.getElem?_set_ne (Ne.symm e9)] at hj
    exact hL.2 j x hj
/-- the constructor of Object -/
def OBJ (own : String) (idx : Nat) : Prop := Cond.methodLink own idx Lib.objectInit ∈ TB ∧ Cond.instanceMethod Lib.objectInit ∈ TB ∧ Cond.code Lib.objectInit ⟨#[0xb1]⟩ 1 none ∈ TB
theorem gb_obj {idx r : Nat} (ho : OBJ (mY d).cls idx) (hf : 1 ≤ mF d) (hlo : st.length + 12 ≤ mL d) (hd : decode (mC d) pc = .ok (.invokespecial idx, 3)) (k : GW xs d n0 hi (pc + 3) ls st n σ Q) : GW xs d n0 hi pc ls (.inr r :: st) n σ Q := by
  intro p l e R s m args below meth c D cyI cyZ A QF adr0 C RT0 H locs lsA adr hR hD hG hS hL hst
  have hv := List.forall_mem_cons.mp hst
  have hts := C.2.2.2.2.1
  have h9 := C.2.2.2.2.2.2.2.2
  refine W.objInit C.1 C.2.1 C.2.2.2.1 (hts _ ho.1) (hts _ ho.2.1) (hts _ ho.2.2) rfl (by rw [C.2.2.1]; exact hL.1.1) rfl hd (Nat.le_trans hf h9.1) ?_ ?_
  · show 2 * 0 + ((st.map (cv adr)).map fun v => v.category).sum + 12 ≤ R.locals
    rw [cat_map]
    have := h9.2.1
    omega
  · exact k p l e R s m args below meth c D cyI cyZ A QF adr0 C RT0 H locs lsA adr hR hD hG hS hL hv.2
end BORN
