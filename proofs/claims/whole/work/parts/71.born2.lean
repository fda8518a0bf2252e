/-! ===== objects are made: new, fields, calls of constructors ===== -/
def NWC (own : String) (idx ci N : Nat) (df : List Bool) : Prop := ∃ (C : String) (T : u_T) (ty : Nat → FieldType), vwCl[ci]? = some (C, T, N) ∧ (∀ w ∈ u_ws C T N, w ∈ TB) ∧ (∀ k, k < N → parseFieldDescriptor (T k).2.2.1 = some (ty k)) ∧ Cond.classLink own idx C ∈ TB ∧ Cond.instantiable C N ∈ TB ∧ Cond.initialized C ∈ TB ∧ ∀ j, j < N → defaultValue (ty j) = if df.getD j false = true then .null else .int 0
theorem flB.new {n : Nat} {σ : Mem} (h : flB n σ) : flB (n + 1) (zr n σ) := by
  intro k j r hk hr hz
  by_cases e : k = n
  · exact absurd (if_pos e) hz
  · have : zr n σ k j = σ k j := if_neg e
    rw [this] at hz
    have := h k j r (by omega) hr hz
    omega
theorem zr_inR {n : Nat} {σ : Mem} (h : ∀ k j, inR (σ k j)) : ∀ k j, inR (zr n σ k j) := by
  intro k j
  unfold zr
  split
  · decide
  · exact h k j
theorem ap_ag {adr : Nat → Nat} {n q : Nat} (h : n < NC) : AG n adr (ap adr n q) := fun k hk => if_neg (by omega)
section BORN2
variable {xs : XS} {d : MD} {n0 hi pc : Nat} {ls : List (Option AV)} {st : List AV} {n : Nat} {σ : Mem} {Q : Int → Mem → Prop}
theorem djB_new {A : Nat → Prop} {adr : Nat → Nat} {q : Nat} {w : va_E} {ws : va_W} {cyI cyZ : ClassId} {σ1 : Mem} (hw : ws = wsB cyI cyZ (ap adr n q) σ1 (n + 1)) (h : va_D A ws) : DjB A (ap adr n q) (n + 1) := by
  subst hw
  exact ⟨fun i j hi hj e => h.1 i j _ _ (wsB_at hi) (wsB_at hj) e, fun k hk => h.2 k _ (wsB_at hk)⟩
theorem gb_new {idx ci N : Nat} {df : List Bool} (hf : NWC (mY d).cls idx ci N df) (hsh : shp n = (ci, N)) (hdf : ∀ j, j < N → df.getD j false = (rfs n j).isSome) (h0 : n0 ≤ n) (h1 : n < hi) (hnc : n < NC) (hd : decode (mC d) pc = .ok (.new idx, 3)) (k : GW xs d n0 hi (pc + 3) ls (.inr n :: st) (n + 1) (zr n σ) Q) : GW xs d n0 hi pc ls st n σ Q := by
  intro p l e R s m args below meth c D cyI cyZ A QF adr0 C RT0 H locs lsA adr hR hD hG hS hL hst
  obtain ⟨CC, TT, ty, hc, hin, hty, hcl, hinst, hini, hdv⟩ := hf
  have hts := C.2.2.2.2.1
  have hA := C.2.2.2.2.2.2.2.1
  have hroom := C.2.2.2.2.2.2.2.2.2.2
  have hSM : SM (n + 1) = SM n + N := by show SM n + (shp n).2 = _; rw [hsh]
  have hm1 := SM_le h0
  have hm2 := SM_le (show n + 1 ≤ hi from h1)
  refine va_new (ci := ci) (fs := (List.range N).map (fvB (fun _ => 0) (fun _ _ => 0) n)) C.1 C.2.1 hts hin ty hty C.2.2.2.1 (hts _ hcl) (hts _ hinst) (hts _ hini) C.2.2.2.2.2.2.1 hR.1 (hD.D cyI cyZ σ) hS hA hc (fun j hj => ?_) (by have := hroom.1; omega) (by have := hroom.2.1; omega) hd (fun q H1 hP1 hD1 hS1 => ?_)
  · rw [hdv j hj, hdf j hj]
    unfold vp_V
    simp only [List.getD, List.getElem?_map, List.getElem?_range hj, Option.map_some, Option.getD_some]
    unfold fvB
    cases rfs n j with
    | none => rfl
    | some r => rfl
  · have hfl := hR.2.2
    have hcell : cellB cyI cyZ (ap adr n q) (zr n σ) n = .inr (ci, (List.range N).map (fvB (fun _ => 0) (fun _ _ => 0) n)) := by
      rw [cellB_obj hsh (vw_lt hc)]
      congr 2
      refine List.map_congr_left (fun j hj => ?_)
      unfold fvB
      rw [show zr n σ n j = 0 from if_pos rfl]
      cases rfs n j with
      | none => rfl
      | some r => rfl
    have hw : wsB cyI cyZ adr σ n ++ [(q, .inr (ci, (List.range N).map (fvB (fun _ => 0) (fun _ _ => 0) n)))] = wsB cyI cyZ (ap adr n q) (zr n σ) (n + 1) := by rw [wsB_new hfl, hcell]
    have hag := ap_ag (adr := adr) (q := q) hnc
    have hD2 : DjB A (ap adr n q) (n + 1) := djB_new (w := .inr (ci, [])) hw hD1
    rw [hw] at hP1
    refine W.cs (cells' := n + 1 - n0) (slots' := SM (n + 1) - SM n0) (by omega) (by omega) ?_
    have kk := k p l e R s m args below meth c D cyI cyZ A QF adr0 C RT0 H1 locs lsA (ap adr n q) ⟨hP1, zr_inR hR.2.1, hfl.new⟩ hD2 (hG.tr hag h0) hS1 (hL.up hag (by omega)) (okBc (Or.inl (by omega)) (fun v hv => (hst v hv).up (by omega)))
    rw [List.map_cons, map_ag hag hst] at kk
    have e9 : cv (ap adr n q) (.inr n) = Value.ref q := by show Value.ref (ap adr n q n) = _; rw [show ap adr n q n = q from if_pos rfl]
    rw [e9] at kk
    exact kk
theorem ra_un {U : State} {a b : ClassId} {ty : FieldType} (hty : ty = .int ∨ ty = .boolean) (h1 : va_RA U a ty) (h2 : va_RA U b ty) : a = b := by
  rcases hty with rfl | rfl
  · exact Option.some.inj (h1.symm.trans h2)
  · exact Option.some.inj (h1.symm.trans h2)
theorem gb_newI {N : Nat} {x : Int} (ex : x = (N : Int)) (harr : Cond.arrayClass .int ∈ TB) (hsh : shp n = (12, N)) (h0 : n0 ≤ n) (h1 : n < hi) (hnc : n < NC) (hd : decode (mC d) pc = .ok (.newarray .int, 2)) (k : GW xs d n0 hi (pc + 2) ls (.inr n :: st) (n + 1) (zr n σ) Q) : GW xs d n0 hi pc ls (.inl x :: st) n σ Q := by
  subst ex
  intro p l e R s m args below meth c D cyI cyZ A QF adr0 C RT0 H locs lsA adr hR hD hG hS hL hst
  have hv := List.forall_mem_cons.mp hst
  have hts := C.2.2.2.2.1
  have hA := C.2.2.2.2.2.2.2.1
  have hroom := C.2.2.2.2.2.2.2.2.2.2
  have hSM : SM (n + 1) = SM n + N := by show SM n + (shp n).2 = _; rw [hsh]
  have hm1 := SM_le h0
  have hm2 := SM_le (show n + 1 ≤ hi from h1)
  have hN := shp_lt n
  rw [hsh] at hN
  have hN : N < 8000 := hN
  have hin : inR (N : Int) := hv.1
  refine va_newa (atype := .int) (n := Int32.ofInt (N : Int)) (N' := N) (a0 := (N, .inl (fun _ => 0))) C.1 C.2.1 (hts _ harr) rfl C.2.2.2.2.2.2.1 hR.1 (hD.D cyI cyZ σ) hS hA (fun cA => rfl) ?_ (by rw [ofI_clamp hin]; exact Int.toNat_natCast N) ?_ (by have := hroom.1; omega) (by have := hroom.2.1; omega) hd (fun q cA H1 hK1 hP1 hD1 hS1 => ?_)
  · rw [← ofI_0, ofI_lt hin (by decide)]
    omega
  · show N * 4 ≤ 536870912
    omega
  · have hfl := hR.2.2
    have ecA : cA = cyI := ra_un (Or.inl rfl) (hK1.2 2 (cA, .int) rfl).2 (hK1.2 0 (cyI, .int) rfl).2
    subst ecA
    have hcell : cellB cA cyZ (ap adr n q) (zr n σ) n = .inl (cA, N, .inl (fun _ => 0)) := by
      rw [cellB_ari hsh]
      have : (fun j => Int32.ofInt (zr n σ n j)) = fun _ => 0 := by
        funext j
        rw [show zr n σ n j = 0 from if_pos rfl]
        rfl
      rw [this]
    have hw : wsB cA cyZ adr σ n ++ [(q, .inl (cA, N, .inl (fun _ => 0)))] = wsB cA cyZ (ap adr n q) (zr n σ) (n + 1) := by rw [wsB_new hfl, hcell]
    have hag := ap_ag (adr := adr) (q := q) hnc
    have hD2 : DjB A (ap adr n q) (n + 1) := djB_new (w := .inr (0, [])) hw hD1
    rw [hw] at hP1
    refine W.cs (cells' := n + 1 - n0) (slots' := SM (n + 1) - SM n0) (by omega) (by omega) ?_
    have kk := k p l e R s m args below meth c D cA cyZ A QF adr0 C RT0 H1 locs lsA (ap adr n q) ⟨hP1, zr_inR hR.2.1, hfl.new⟩ hD2 (hG.tr hag h0) hS1 (hL.up hag (by omega)) (okBc (Or.inl (by omega)) (fun v hv2 => (hv.2 v hv2).up (by omega)))
    rw [List.map_cons, map_ag hag hv.2] at kk
    have e9 : cv (ap adr n q) (.inr n) = Value.ref q := by show Value.ref (ap adr n q n) = _; rw [show ap adr n q n = q from if_pos rfl]
    rw [e9] at kk
    exact kk
theorem gb_newZ {N : Nat} {x : Int} (ex : x = (N : Int)) (harr : Cond.arrayClass .boolean ∈ TB) (hsh : shp n = (13, N)) (h0 : n0 ≤ n) (h1 : n < hi) (hnc : n < NC) (hd : decode (mC d) pc = .ok (.newarray .boolean, 2)) (k : GW xs d n0 hi (pc + 2) ls (.inr n :: st) (n + 1) (zr n σ) Q) : GW xs d n0 hi pc ls (.inl x :: st) n σ Q := by
  subst ex
  intro p l e R s m args below meth c D cyI cyZ A QF adr0 C RT0 H locs lsA adr hR hD hG hS hL hst
  have hv := List.forall_mem_cons.mp hst
  have hts := C.2.2.2.2.1
  have hA := C.2.2.2.2.2.2.2.1
  have hroom := C.2.2.2.2.2.2.2.2.2.2
  have hSM : SM (n + 1) = SM n + N := by show SM n + (shp n).2 = _; rw [hsh]
  have hm1 := SM_le h0
  have hm2 := SM_le (show n + 1 ≤ hi from h1)
  have hN := shp_lt n
  rw [hsh] at hN
  have hN : N < 8000 := hN
  have hin : inR (N : Int) := hv.1
  refine va_newa (atype := .boolean) (n := Int32.ofInt (N : Int)) (N' := N) (a0 := (N, .inl (fun _ => 0))) C.1 C.2.1 (hts _ harr) rfl C.2.2.2.2.2.2.1 hR.1 (hD.D cyI cyZ σ) hS hA (fun cA => rfl) ?_ (by rw [ofI_clamp hin]; exact Int.toNat_natCast N) ?_ (by have := hroom.1; omega) (by have := hroom.2.1; omega) hd (fun q cA H1 hK1 hP1 hD1 hS1 => ?_)
  · rw [← ofI_0, ofI_lt hin (by decide)]
    omega
  · show N * 1 ≤ 536870912
    omega
  · have hfl := hR.2.2
    have ecA : cA = cyZ := ra_un (Or.inr rfl) (hK1.2 2 (cA, .boolean) rfl).2 (hK1.2 1 (cyZ, .boolean) rfl).2
    subst ecA
    have hcell : cellB cyI cA (ap adr n q) (zr n σ) n = .inl (cA, N, .inl (fun _ => 0)) := by
      rw [cellB_arz hsh]
      have : (fun j => Int32.ofInt (zr n σ n j)) = fun _ => 0 := by
        funext j
        rw [show zr n σ n j = 0 from if_pos rfl]
        rfl
      rw [this]
    have hw : wsB cyI cA adr σ n ++ [(q, .inl (cA, N, .inl (fun _ => 0)))] = wsB cyI cA (ap adr n q) (zr n σ) (n + 1) := by rw [wsB_new hfl, hcell]
    have hag := ap_ag (adr := adr) (q := q) hnc
    have hD2 : DjB A (ap adr n q) (n + 1) := djB_new (w := .inr (0, [])) hw hD1
    rw [hw] at hP1
    refine W.cs (cells' := n + 1 - n0) (slots' := SM (n + 1) - SM n0) (by omega) (by omega) ?_
    have kk := k p l e R s m args below meth c D cyI cA A QF adr0 C RT0 H1 locs lsA (ap adr n q) ⟨hP1, zr_inR hR.2.1, hfl.new⟩ hD2 (hG.tr hag h0) hS1 (hL.up hag (by omega)) (okBc (Or.inl (by omega)) (fun v hv2 => (hv.2 v hv2).up (by omega)))
    rw [List.map_cons, map_ag hag hv.2] at kk
    have e9 : cv (ap adr n q) (.inr n) = Value.ref q := by show Value.ref (ap adr n q n) = _; rw [show ap adr n q n = q from if_pos rfl]
    rw [e9] at kk
    exact kk
-- fields
theorem fsB_set {adr : Nat → Nat} {r j N : Nat} {v : Int} : ((List.range N).map (fvB adr σ r)).set j (match rfs r j with
    | some t => if v = 0 then .null else .ref (adr t)
    | none => .int (Int32.ofInt v)) = (List.range N).map (fvB adr (mu σ r j v) r) := by
  apply List.ext_getElem?
  intro i
  by_cases h : i = j
  · subst h
    by_cases hi : i < N
    · rw [List.getElem?_set_self (by simpa using hi)]
      simp only [List.getElem?_map, List.getElem?_range hi, Option.map_some]
      unfold fvB
      rw [mu_eq]
      cases rfs r i <;> rfl
    · rw [List.getElem?_eq_none (by simp; omega), List.getElem?_eq_none (by simp; omega)]
  · rw [List.getElem?_set_ne (Ne.symm h)]
    by_cases hi : i < N
    · simp only [List.getElem?_map, List.getElem?_range hi, Option.map_some]
      unfold fvB
      rw [show mu σ r j v r i = σ r i from if_neg (fun z => h z.2)]
    · rw [List.getElem?_eq_none (by simp; omega), List.getElem?_eq_none (by simp; omega)]
theorem flB.put {k j : Nat} {v : Int} (h : flB n σ) (hr : ∀ r, rfs k j = some r → v ≠ 0 → r < n) : flB n (mu σ k j v) := by
  intro a b r ha hab hz
  unfold mu at hz
  split at hz
  · rename_i e
    rw [e.1, e.2] at hab
    exact hr r hab hz
  · exact h a b r ha hab hz
theorem gb_putI {idx ci j r N : Nat} {ty : FieldType} {v : Int} (hf : FP (mY d).cls idx ci j ty) (hr : r < n) (hk : shp r = (ci, N)) (hj : j < N) (hn : rfs r j = none) (hty : ty = .int ∨ (ty = .boolean ∧ (v = 0 ∨ v = 1))) (hd : decode (mC d) pc = .ok (.putfield idx, 3)) (k : GW xs d n0 hi (pc + 3) ls st n (mu σ r j v) Q) : GW xs d n0 hi pc ls (.inl v :: .inr r :: st) n σ Q := by
  intro p l e R s m args below meth c D cyI cyZ A QF adr0 C RT0 H locs lsA adr hR hD hG hS hL hst
  obtain ⟨CC, TT, NN, ty0, hc, hjN, hsame, hlink, hin, hpd, hnm, hfin, hty0⟩ := hf
  have hv := List.forall_mem_cons.mp hst
  have hv2 := List.forall_mem_cons.mp hv.2
  have he : (wsB cyI cyZ adr σ n)[r]? = some (adr r, .inr (ci, (List.range N).map (fvB adr σ r))) := by rw [wsB_at hr, cellB_obj hk (vw_lt hc)]
  have hpty : parseFieldDescriptor (TT j).2.2.1 = some ty := by rw [← hty0]; exact hpd j hjN
  refine va_put (v := .int (Int32.ofInt v)) (ty := ty) C.1 C.2.1 C.2.2.2.2.1 hin ty0 hpd hnm C.2.2.2.1 C.2.2.2.2.2.2.1 hR.1 (hD.D cyI cyZ σ) hS r he hc j hjN (C.2.2.2.2.1 _ hlink) (fun x h9 => by rw [hsame] at h9; exact h9) hfin hpty ?_ ?_ (by simpa using hj) hd (fun H1 locs1 hP1 hD1 hS1 => ?_)
  · rcases hty with h | ⟨h, h2 | h2⟩
    · rw [h]; rfl
    · rw [h, h2]; rfl
    · rw [h, h2]; rfl
  · rcases hty with h | ⟨h, h2 | h2⟩
    · rw [h]; rfl
    · rw [h, h2]; rfl
    · rw [h, h2]; rfl
  · have e2 := fsB_set (adr := adr) (σ := σ) (r := r) (j := j) (N := N) (v := v)
    rw [hn] at e2
    have e2 : ((List.range N).map (fvB adr σ r)).set j (.int (Int32.ofInt v)) = (List.range N).map (fvB adr (mu σ r j v) r) := e2
    rw [e2] at hP1
    have e1 := wsB_set (cyI := cyI) (cyZ := cyZ) (adr := adr) (σ := σ) (σ' := mu σ r j v) hr mu_ne
    rw [cellB_obj hk (vw_lt hc)] at e1
    rw [e1] at hP1
    exact k p l e R s m args below meth c D cyI cyZ A QF adr0 C RT0 H1 locs1 lsA adr ⟨hP1, mu_inR hR.2.1 hv.1, hR.2.2.put (fun t ht _ => by rw [hn] at ht; cases ht)⟩ hD hG hS1 hL hv2.2
/-- a final field of references, in its class's constructor -/
def FPR (own : String) (idx ci j : Nat) : Prop := ∃ (C : String) (T : u_T) (N : Nat) (ty0 : Nat → FieldType), vwCl[ci]? = some (C, T, N) ∧ j < N ∧ (T j).1 = C ∧ (T j).1 = own ∧ Cond.fieldLink own idx C (T j).2.1 (T j).2.2.1 ∈ TB ∧ (∀ w ∈ u_ws C T N, w ∈ TB) ∧ (∀ k, k < N → parseFieldDescriptor (T k).2.2.1 = some (ty0 k)) ∧ (∀ a, a < N → ∀ b, b < N → a ≠ b → (T a).2.1 ≠ (T b).2.1) ∧ (T j).2.2.2 = true ∧ (∀ a, narrow (ty0 j) (.ref a) = .ref a) ∧ ∀ a, fits (ty0 j) (.ref a) = true
theorem gb_putR {idx ci j r t N : Nat} (hf : FPR (mY d).cls idx ci j) (hin9 : (mY d).name = "<init>") (hr : r < n) (ht9 : t < n) (hk : shp r = (ci, N)) (hj : j < N) (hn : rfs r j = some t) (hd : decode (mC d) pc = .ok (.putfield idx, 3)) (k : GW xs d n0 hi (pc + 3) ls st n (mu σ r j 1) Q) : GW xs d n0 hi pc ls (.inr t :: .inr r :: st) n σ Q := by
  intro p l e R s m args below meth c D cyI cyZ A QF adr0 C RT0 H locs lsA adr hR hD hG hS hL hst
  obtain ⟨CC, TT, NN, ty0, hc, hjN, hsame, hown, hlink, hin, hpd, hnm, hfin, hnar, hfits⟩ := hf
  have hv := List.forall_mem_cons.mp hst
  have hv2 := List.forall_mem_cons.mp hv.2
  have he : (wsB cyI cyZ adr σ n)[r]? = some (adr r, .inr (ci, (List.range N).map (fvB adr σ r))) := by rw [wsB_at hr, cellB_obj hk (vw_lt hc)]
  have hin2 := C.2.2.2.2.2.2.2.2.2.2.2.2.1 hin9
  refine va_putF (v := .ref (adr t)) (ty := ty0 j) C.1 C.2.1 C.2.2.2.2.1 hin ty0 hpd hnm C.2.2.2.1 C.2.2.2.2.2.2.1 hR.1 (hD.D cyI cyZ σ) hS r he hc j hjN (C.2.2.2.2.1 _ hlink) (fun x h9 => by rw [hsame] at h9; exact h9) hfin hin2 hown (hpd j hjN) (hnar _) (hfits _) (by simpa using hj) hd (fun H1 locs1 hP1 hD1 hS1 => ?_)
  have e2 := fsB_set (adr := adr) (σ := σ) (r := r) (j := j) (N := N) (v := 1)
  rw [hn] at e2
  have e2 : ((List.range N).map (fvB adr σ r)).set j (.ref (adr t)) = (List.range N).map (fvB adr (mu σ r j 1) r) := e2
  rw [e2] at hP1
  have e1 := wsB_set (cyI := cyI) (cyZ := cyZ) (adr := adr) (σ := σ) (σ' := mu σ r j 1) hr mu_ne
  rw [cellB_obj hk (vw_lt hc)] at e1
  rw [e1] at hP1
  exact k p l e R s m args below meth c D cyI cyZ A QF adr0 C RT0 H1 locs1 lsA adr ⟨hP1, mu_inR hR.2.1 (by decide), hR.2.2.put (fun t' ht _ => by rw [hn] at ht; cases ht; exact ht9)⟩ hD hG hS1 hL hv2.2
theorem gb_getR {idx ci j r t N : Nat} (hf : FL (mY d).cls idx ci j) (hr : r < n) (hk : shp r = (ci, N)) (hj : j < N) (hn : rfs r j = some t) (hz : σ r j ≠ 0) (hd : decode (mC d) pc = .ok (.getfield idx, 3)) (k : GW xs d n0 hi (pc + 3) ls (.inr t :: st) n σ Q) : GW xs d n0 hi pc ls (.inr r :: st) n σ Q := by
  intro p l e R s m args below meth c D cyI cyZ A QF adr0 C RT0 H locs lsA adr hR hD hG hS hL hst
  obtain ⟨CC, TT, NN, hc, hjN, hsame, hlink, hin⟩ := hf
  have hv := List.forall_mem_cons.mp hst
  have he : (wsB cyI cyZ adr σ n)[r]? = some (adr r, .inr (ci, (List.range N).map (fvB adr σ r))) := by rw [wsB_at hr, cellB_obj hk (vw_lt hc)]
  refine va_get (v := .ref (adr t)) C.1 C.2.1 C.2.2.2.2.1 hin C.2.2.2.1 C.2.2.2.2.2.2.1 hR.1 r he hc j hjN (C.2.2.2.2.1 _ hlink) (fun x h9 => by rw [hsame] at h9; exact h9) ?_ hd
    (k p l e R s m args below meth c D cyI cyZ A QF adr0 C RT0 H locs lsA adr hR hD hG hS hL (okBc (Or.inl (hR.2.2 r j t hr hn hz)) hv.2))
  simp only [List.getElem?_map, List.getElem?_range hj, Option.map_some]
  unfold fvB
  rw [hn]
  show some (if σ r j = 0 then Value.null else .ref (adr t)) = _
  rw [if_neg hz]
end BORN2
