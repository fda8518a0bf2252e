/-! ===== objects are made: contracts of constructors ===== -/
def AofB (adr : Nat → Nat) (n sz : Nat) : Nat → Prop := fun q => (∃ k, k < n ∧ q = adr k) ∨ sz ≤ q
def PcB (D : va_G) (cyI cyZ : ClassId) (adr : Nat → Nat) (n sz : Nat) (args : List AV) (σ : Mem) : Array Value → State → Prop :=
  va_Pc (args.map (cv adr)) (fun U => U.heap.size = sz ∧ RepB D cyI cyZ adr n σ U.heap ∧ va_K D vwCl (tysOf cyI cyZ) U ∧ NWs U)
def QcB (D : va_G) (cyI cyZ : ClassId) (adr : Nat → Nat) (n hi sz : Nat) (Q : Mem → Prop) : Array Value → State → Outcome → State → Prop :=
  va_Qv (S := (Nat → Nat) × Mem) (fun u => AG n adr u.1 ∧ DjB (AofB adr n sz) u.1 hi ∧ Q u.2) (fun u t => RepB D cyI cyZ u.1 hi u.2 t.heap) (AofB adr n sz)
def rmB (d : MD) (n hi : Nat) : Room := { frames := mF d, cells := hi - n, slots := SM hi - SM n, locals := mL d }
/-- a constructor's contract: n cells are made before, hi behind -/
def CB (d : MD) (as : List AV) (n hi : Nat) (σ : Mem) (Q : Mem → Prop) : Prop :=
  ∀ (l : Launch) (D : va_G) (cyI cyZ : ClassId) (adr : Nat → Nat) (sz : Nat), (∀ i j, i < n → j < n → adr i = adr j → i = j) → (∀ v ∈ as, okB n v) →
    Met l (mY d) (wsM d) (rmB d n hi) (PcB D cyI cyZ adr n sz as σ) (QcB D cyI cyZ adr n hi sz Q) (hi - n) (SM hi - SM n) (AofB adr n sz)
theorem CB_of_GW {d : MD} {as : List AV} {n hi : Nat} {σ : Mem} {Q : Mem → Prop} (hy : plainName (mY d).cls = true) (hkd : mK d = 1 ∧ mR d = none) (hlen : as.length ≤ mN d) (hnm : (mY d).name = "<init>") (h : GW none d n hi 0 (ent d as) [] n σ (fun _ σ1 => Q σ1)) : CB d as n hi σ Q := by
  intro l D cyI cyZ adr sz hinj hok
  refine Met.ofW (cc := mC d) (maxL := mN d) (ret := mR d) hy rfl ?_
  intro p e s m args below meth c s₁ B hml hv
  obtain ⟨rfl, hsz, hRep, hK, hNW⟩ := hv
  subst hsz
  have hts := atoms_spec (ws := wsM d) B.pre
  have hown : s.vm.findClass (mY d).cls = some m.cls := findClass_of_methodNamed B.named
  have hin : meth.name = (mY d).name := (name_of_methodNamed B.named B.method).1
  have hcat : ∀ v ∈ as.map (cv adr), v.category = 1 := fun v hv => by
    obtain ⟨a, -, rfl⟩ := List.mem_map.mp hv
    exact cv_cat adr a
  have hl0 := lgsl_len _ hcat
  rw [List.length_map] at hl0
  have hle := lv_entry (as.map (cv adr)) (n := mN d) (by rw [hl0]; exact hlen)
  rw [lg_entry_eq]
  have hDj : DjB (AofB adr n s.heap.size) adr n := ⟨hinj, fun k hk => Or.inl ⟨k, hk, rfl⟩⟩
  have hent : ∀ (i : Nat) (v : AV), (ent d as)[i]? = some (some v) → as[i]? = some v := fun i v hi => by
    unfold ent at hi
    by_cases hil : i < as.length
    · rw [List.getElem?_append_left (by rw [List.length_map]; exact hil), List.getElem?_map] at hi
      cases hq : as[i]? with
      | none => rw [hq] at hi; cases hi
      | some w =>
        rw [hq] at hi
        cases hi
        rfl
    · rw [List.getElem?_append_right (by rw [List.length_map]; omega), List.getElem?_replicate] at hi
      split at hi <;> cases hi
  refine W.cs (cells' := n - n) (slots' := SM n - SM n) (by omega) (by omega) ?_
  refine h p l e (headSpec (wsM d) (rmB d n hi)).room s m _ below meth c D cyI cyZ (AofB adr n s.heap.size) _ adr ?_ ?_ s.heap [] _ adr hRep hDj AG.rf va_S.rf ⟨?_, ?_⟩ (fun v hv => by cases hv)
  · exact ⟨B.exec, B.bytes, hml, hown, fun w hw => hts w (List.mem_cons_of_mem _ hw), hNW, hK, fun q hq => Or.inr hq, Nat.le_refl _, Nat.le_refl _, Nat.le_refl _, Nat.le_refl _, fun h9 => hin.trans h9, fun L f hx => by cases hx⟩
  · intro pc H locs lsA st v σ' adr' hr hR2 hD2 hG2 hS2 hq
    unfold retOK at hr
    have hx := B.exec
    have hb := B.bytes
    have hret : meth.sig.returnType = mR d := B.returns
    rw [hkd.1] at hr
    obtain ⟨hd, rfl, rfl⟩ := hr
    exact W.vret hx hb (hret.trans hkd.2) (fun t ht hW => ⟨⟨(adr', σ'), rfl, ⟨hG2, hD2, hq⟩, (show RepB D cyI cyZ adr' hi σ' t.heap by rw [ht]; exact hR2)⟩, hS2.F ht⟩) hS2.2.2 hd B.notSynchronized
  · refine ⟨hle.1, hle.2.1, by unfold ent; rw [List.length_append, List.length_map, List.length_replicate]; omega, fun i v hi => ?_⟩
    have hq := hent i v hi
    have hm := lvargs_mem (as.map (cv adr)) 0 hcat i (cv adr v) (by rw [List.getElem?_map, hq]; rfl)
    rw [Nat.zero_add] at hm
    exact ⟨hle.2.2 _ hm, (hok _ (List.mem_of_getElem? hq)).V⟩
  · intro i k hi
    exact hok _ (List.mem_of_getElem? (hent i _ hi))
def MOI (d : MD) (n : Nat) : Prop := Cond.instanceMethod (mY d) ∈ TB ∧ Cond.initialized (mY d).cls ∈ TB ∧ Cond.code (mY d) (mC d) (mN d) none ∈ TB ∧ (mY d).cls ≠ "java/lang/invoke/MethodHandle" ∧ (mY d).cls ≠ "java/lang/invoke/VarHandle" ∧ (parseMethodDescriptor (mY d).desc).map (fun d => d.parameters.length) = some n ∧ (mY d).name = "<init>" ∧ mR d = none
theorem pcB_blind {D : va_G} {cyI cyZ : ClassId} {adr : Nat → Nat} {n sz : Nat} {as : List AV} {σ : Mem} : FrameBlind (PcB D cyI cyZ adr n sz as σ) := by
  intro a U g mk h
  obtain ⟨h1, h2, h3, h4, h5⟩ := h
  exact ⟨h1, h2, h3, va_K.moved (u := U) (U := U.calling g mk a) (Vm.Alike.refl U.vm) h4, NWs.same (u := U) (U := U.calling g mk a) rfl h5⟩
section BORN3
variable {xs : XS} {d : MD} {n0 hi pc : Nat} {ls : List (Option AV)} {n : Nat} {σ : Mem} {Q : Int → Mem → Prop}
theorem AB_in {A : Nat → Prop} {adr : Nat → Nat} {H0 H : Heap} {locs : List Loc} (hA : ∀ q, H0.size ≤ q → A q) (hD : DjB A adr n) (hS : va_S A H0 H locs) : ∀ q, AofB adr n H.size q → A q := by
  intro q h
  rcases h with ⟨k, hk, rfl⟩ | h
  · exact hD.2 k hk
  · exact hA q (Nat.le_trans hS.1 h)
/-- a call of a constructor: by its link, or by a nest mate's -/
theorem gb_ctor {e9 : MD} {idx r np n1 : Nat} {as rest st0 : List AV} {Q9 : Mem → Prop} (hm : MOI e9 np) (hlink : Cond.methodLink (mY d).cls idx (mY e9) ∈ TB ∨ ((mY d).cls, idx, mY e9) ∈ nestL) (has : as.length = np) (hroom : mF e9 + 1 ≤ mF d ∧ 8 + (mN e9 + 11) + mL e9 ≤ mL d) (hrest : rest.length ≤ 8) (hst0 : st0 = as.reverse ++ .inr r :: rest) (h0 : n0 ≤ n) (h01 : n ≤ n1) (h1 : n1 ≤ hi) (hd : decode (mC d) pc = .ok (.invokespecial idx, 3)) (hcb : CB e9 (.inr r :: as) n n1 σ Q9) (kk : ∀ σ1, Q9 σ1 → GW xs d n0 hi (pc + 3) ls rest n1 σ1 Q) : GW xs d n0 hi pc ls st0 n σ Q := by
  intro p l e R s m args below meth c D cyI cyZ A QF adr0 C RT0 H locs lsA adr hR hD hG hS hL hst
  obtain ⟨hinst, hini, hcode, hn1, hn2, hpar, hnm, hret⟩ := hm
  obtain ⟨hx, hb, hml, hown, hts, hNW, hK, hA, hf, hlo, hcl, hsl, -, -⟩ := id C
  have hrest0 : ∀ v ∈ rest, okB n v := fun v hv => hst v (by rw [hst0]; exact List.mem_append_right _ (List.mem_cons_of_mem _ hv))
  have hM := hcb l D cyI cyZ adr H.size hD.1 (fun v hv => by
    rcases List.mem_cons.mp hv with h | h
    · rw [h]; exact hst _ (by rw [hst0]; exact List.mem_append_right _ List.mem_cons_self)
    · exact hst v (by rw [hst0]; exact List.mem_append_left _ (List.mem_reverse.mpr h)))
  have hcode' : Cond.code (mY e9) (mC e9) (mN e9) (mR e9) ∈ TB := by rw [hret]; exact hcode
  have hG9 : GoodIn TB (wsM e9) := tb_good (fun w hw => ws_in hcode' w hw)
  have hwsM : wsM e9 = Cond.code (mY e9) (mC e9) (mN e9) none :: TB := by unfold wsM; rw [hret]
  have m0 := SM_le h0
  have m01 := SM_le h01
  have m1 := SM_le h1
  have hAB := AB_in hA hD hS
  have hrun : va_Run p l e R s m args below meth c H locs (n - n0) (SM n - SM n0) (n1 - n) (SM n1 - SM n) (F0 m pc lsA (st0.map (cv adr))) (rest.map (cv adr)) (QcB D cyI cyZ adr n n1 H.size Q9 ((Value.ref (adr r)) :: (as.map (cv adr))).toArray) (AofB adr n H.size) := by
    rcases hlink with hlink | hlink
    · refine va_runI (As := as.map (cv adr)) (rest := rest.map (cv adr)) (b := adr r) (n := np) (bytes := mC e9) (maxL := mN e9) (rm := rmB e9 n n1) ⟨hx, hb, hml, hown, hts⟩ hM (cwI np hts hG9 hwsM rfl rfl (hts _ hini) (hts _ hlink) (hts _ hinst) hnm ⟨hn1, hn2, hpar⟩ ⟨Nat.le_trans hroom.1 hf, Nat.le_trans hroom.2 hlo⟩) ⟨pcB_blind, fun U hU hW => ⟨rfl, by rw [hU], by rw [hU]; exact hR, va_K.moved hW.alike hK, NWs.warm hW hNW⟩⟩ rfl (by rw [List.length_map]; exact has) hL.1.1 ?_ (lv_room (by rw [cat_map]; exact hrest)) hd ⟨by omega, by omega⟩
      rw [hst0]
      simp [cv]
    · refine va_runIN (As := as.map (cv adr)) (rest := rest.map (cv adr)) (b := adr r) (n := np) (bytes := mC e9) (maxL := mN e9) (rm := rmB e9 n n1) (host := "ShopsOnFloor") ⟨hx, hb, hml, hown, hts⟩ hM ⟨va_cnB np hts hG9 hwsM rfl rfl (hNW _ hlink) (hts _ hini) ⟨hn1, hn2, hpar⟩ ⟨Nat.le_trans hroom.1 hf, Nat.le_trans hroom.2 hlo⟩, hnm, hts _ hinst⟩ ⟨pcB_blind, fun U hU hW => ⟨rfl, by rw [hU], by rw [hU]; exact hR, va_K.moved hW.alike hK, NWs.warm hW hNW⟩⟩ rfl (by rw [List.length_map]; exact has) hL.1.1 ?_ (lv_room (by rw [cat_map]; exact hrest)) hd ⟨by omega, by omega⟩
      rw [hst0]
      simp [cv]
  refine va_callv hrun hS (fun q _ h => hAB q h) hAB (fun u t H1 locs1 ht hvm hp hB hz hk1 hS1 => ?_)
  obtain ⟨hp1, hp2, hp3⟩ := hp
  rw [ht] at hB
  have hD2 : DjB A u.1 n1 := ⟨hp2.1, fun k hk => hAB _ (hp2.2 k hk)⟩
  refine W.cs (cells' := n1 - n0) (slots' := SM n1 - SM n0) (by omega) (by omega) ?_
  have k9 := kk u.2 hp3 p l e R s m args below meth c D cyI cyZ A QF adr0 C RT0 H1 locs1 lsA u.1 hB hD2 (hG.tr hp1 h0) hS1 (hL.up hp1 h01) (fun v hv => (hrest0 v hv).up h01)
  rw [map_ag hp1 hrest0] at k9
  exact k9
theorem gb_return (hx9 : xs = none) (hk : mK d = 1) (hd : decode (mC d) pc = .ok (.return_, 1)) (hn : n = hi) (hq : Q 0 σ) : GW xs d n0 hi pc ls [] n σ Q := by
  subst hn
  subst hx9
  intro p l e R s m args below meth c D cyI cyZ A QF adr0 C RT0 H locs lsA adr hR hD hG hS hL hst
  refine RT0 pc H locs lsA [] 0 σ adr ?_ hR hD hG hS hq
  unfold retOK
  rw [hk]
  exact ⟨hd, rfl, rfl⟩
/-- all fields of references are set -/
def full (σ : Mem) : Prop := ∀ k j r, k < NC → rfs k j = some r → σ k j ≠ 0
theorem cellB_full {cyI cyZ : ClassId} {adr : Nat → Nat} {k : Nat} (h : full σ) (hk : k < NC) : cellB cyI cyZ adr σ k = cellE cyI cyZ adr σ k := by
  unfold cellB cellE
  have e : fvB adr σ k = fv adr σ k := by
    funext j
    unfold fvB fv
    have hr : ∀ r, rfs k j = some r → σ k j ≠ 0 := fun r h9 => h k j r hk h9
    generalize rfs k j = o at hr
    cases o with
    | none => rfl
    | some r =>
      show (if σ k j = 0 then Value.null else Value.ref (adr r)) = _
      rw [if_neg (hr r rfl)]
  rw [e]
theorem wsB_full {cyI cyZ : ClassId} {adr : Nat → Nat} (h : full σ) : wsB cyI cyZ adr σ NC = wsOf cyI cyZ adr σ := by
  unfold wsB wsOf
  refine List.map_congr_left (fun k hk => ?_)
  rw [cellB_full h (List.mem_range.mp hk)]
theorem getD_in {l : List (Option Nat)} {j r : Nat} (h : l.getD j none = some r) : some r ∈ l := by
  by_cases z : j < l.length
  · have e : l.getD j none = l[j] := by simp [List.getD, z]
    rw [e] at h
    rw [← h]
    exact List.getElem_mem z
  · have h2 : l[j]? = none := List.getElem?_eq_none (by omega)
    simp [List.getD, h2] at h
theorem getD_lt {l : List (Option Nat)} {j r : Nat} (h : l.getD j none = some r) : j < l.length := by
  refine Nat.lt_of_not_le (fun z => ?_)
  have h2 : l[j]? = none := List.getElem?_eq_none z
  simp [List.getD, h2] at h
theorem rfs_lt : ∀ k j r, rfs k j = some r → r < NC := by
  have h1 : ∀ k, k < 95 → ∀ o ∈ rfsL.getD k [], ∀ r, o = some r → r < 95 := by
    have : ∀ k, k < 95 → (rfsL.getD k []).all (fun o => match o with | some r => Nat.blt r 95 | none => true) = true := by decide +kernel
    intro k hk o ho r hr
    have h := List.all_eq_true.mp (this k hk) o ho
    subst hr
    exact Nat.le_of_ble_eq_true h
  intro k j r h
  unfold rfs at h
  have hk : k < 95 := by
    refine Nat.lt_of_not_le (fun z => ?_)
    have : rfsL.getD k [] = [] := by
      have h2 : rfsL[k]? = none := List.getElem?_eq_none (by show 95 ≤ k; exact z)
      simp [List.getD, h2]
    rw [this] at h
    cases h
  have hj : some r ∈ rfsL.getD k [] := getD_in h
  exact h1 k hk _ hj r rfl
/-- when all cells are made, the rest of the body goes on as any body -/
theorem gb_toGO {st : List AV} (hx9 : xs = none) (hhi : hi = NC) (h0 : n0 ≤ NC) (hf : full σ) (hQ : ∀ v σ1, Q v σ1 → full σ1) (h : GO xs d pc ls st σ Q) : GW xs d n0 hi pc ls st NC σ Q := by
  subst hhi
  subst hx9
  intro p l e R s m args below meth c D cyI cyZ A QF adr0 C RT0 H locs lsA adr hR hD hG hS hL hst
  obtain ⟨hx, hb, hml, hown, hts, hNW, hK, hA, hfr, hlo, hcl, hsl, hin, hxs⟩ := C
  refine h p l e R s m args below meth c D cyI cyZ adr A (NC - n0) (SM NC - SM n0) QF ⟨hx, hb, hml, hown, hts, hNW.nw, hK, hD, hA, hfr, hlo, hcl, hsl, fun L f hx => ?_⟩ ?_ H locs lsA ⟨?_, hR.2.1⟩ hS hL.1 (fun v hv => (hst v hv).V)
  · have e := hG NC (Or.inr rfl)
    rw [e]
    exact hxs L f hx
  · intro pc H locs lsA st v σ1 hr hR1 hS1 hq
    have hf1 := hQ v σ1 hq
    refine RT0 pc H locs lsA st v σ1 adr hr ⟨?_, hR1.2, fun k j r _ hr _ => rfs_lt k j r hr⟩ hD hG hS1 hq
    rw [wsB_full hf1]
    exact hR1.1
  · rw [← wsB_full hf]
    exact hR.1
theorem gb_toGO2 {st : List AV} {q9 : Nat × (Nat → Int)} (hx9 : xs = some q9) (hhi : hi = NC) (h0 : n0 ≤ NC) (hf : full σ) (h : GO xs d pc ls st σ Q) : GW xs d n0 hi pc ls st NC σ Q := by
  subst hhi
  subst hx9
  intro p l e R s m args below meth c D cyI cyZ A QF adr0 C RT0 H locs lsA adr hR hD hG hS hL hst
  obtain ⟨hx, hb, hml, hown, hts, hNW, hK, hA, hfr, hlo, hcl, hsl, hin, hxs⟩ := C
  refine h p l e R s m args below meth c D cyI cyZ adr A (NC - n0) (SM NC - SM n0) QF ⟨hx, hb, hml, hown, hts, hNW.nw, hK, hD, hA, hfr, hlo, hcl, hsl, fun L f hx => ?_⟩ ?_ H locs lsA ⟨?_, hR.2.1⟩ hS hL.1 (fun v hv => (hst v hv).V)
  · have e := hG NC (Or.inr rfl)
    rw [e]
    exact hxs L f hx
  · intro pc H locs lsA st v σ1 hr hR1 hS1 hq
    exact RT0 pc H locs lsA st v σ1 adr hr hR1 hD hG hS1 hq
  · rw [← wsB_full hf]
    exact hR.1
end BORN3
