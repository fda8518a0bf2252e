/-! ===== the law: its entry ===== -/
theorem is_X0 : Cond.instantiable RX0 7 ∈ TB := tb_of 180 (by decide +kernel) rfl
theorem is_X1 : Cond.instantiable RX1 6 ∈ TB := tb_of 223 (by decide +kernel) rfl
theorem is_X2 : Cond.instantiable RX2 9 ∈ TB := tb_of 68 (by decide +kernel) rfl
theorem is_X3 : Cond.instantiable RX3 2 ∈ TB := tb_of 146 (by decide +kernel) rfl
theorem is_X4 : Cond.instantiable RX4 4 ∈ TB := tb_of 159 (by decide +kernel) rfl
theorem is_X5 : Cond.instantiable RX5 3 ∈ TB := tb_of 250 (by decide +kernel) rfl
theorem is_X6 : Cond.instantiable RX6 11 ∈ TB := tb_of 268 (by decide +kernel) rfl
theorem is_X7 : Cond.instantiable RX7 1 ∈ TB := tb_of 74 (by decide +kernel) rfl
theorem is_X8 : Cond.instantiable RX8 2 ∈ TB := tb_of 186 (by decide +kernel) rfl
theorem is_X9 : Cond.instantiable RX9 8 ∈ TB := tb_of 113 (by decide +kernel) rfl
theorem is_X10 : Cond.instantiable RX10 10 ∈ TB := tb_of 60 (by decide +kernel) rfl
theorem is_X11 : Cond.instantiable RX11 30 ∈ TB := tb_of 794 (by decide +kernel) rfl
theorem law_D {args : Array Value} {s : State} (htsB : ∀ w ∈ TB, w.before args s = true) : ∃ D : va_G, ∀ (c : Nat) (q : vw_C), vwCl[c]? = some q → u_Kn s q.1 q.2.1 q.2.2 (D.1 c) (D.2 c) := by
  obtain ⟨a0, i0, h0⟩ := u_known htsB uw_X0 (htsB _ is_X0)
  obtain ⟨a1, i1, h1⟩ := u_known htsB uw_X1 (htsB _ is_X1)
  obtain ⟨a2, i2, h2⟩ := u_known htsB uw_X2 (htsB _ is_X2)
  obtain ⟨a3, i3, h3⟩ := u_known htsB uw_X3 (htsB _ is_X3)
  obtain ⟨a4, i4, h4⟩ := u_known htsB uw_X4 (htsB _ is_X4)
  obtain ⟨a5, i5, h5⟩ := u_known htsB uw_X5 (htsB _ is_X5)
  obtain ⟨a6, i6, h6⟩ := u_known htsB uw_X6 (htsB _ is_X6)
  obtain ⟨a7, i7, h7⟩ := u_known htsB uw_X7 (htsB _ is_X7)
  obtain ⟨a8, i8, h8⟩ := u_known htsB uw_X8 (htsB _ is_X8)
  obtain ⟨a9, i9, h9⟩ := u_known htsB uw_X9 (htsB _ is_X9)
  obtain ⟨a10, i10, h10⟩ := u_known htsB uw_X10 (htsB _ is_X10)
  obtain ⟨a11, i11, h11⟩ := u_known htsB uw_X11 (htsB _ is_X11)
  have h : ∀ c : Nat, ∃ r : ClassId × (Nat → Nat), ∀ q : vw_C, vwCl[c]? = some q → u_Kn s q.1 q.2.1 q.2.2 r.1 r.2 := by
    intro c
    match c with
    | 0 => exact ⟨(a0, i0), fun q hq => by cases hq; exact h0⟩
    | 1 => exact ⟨(a1, i1), fun q hq => by cases hq; exact h1⟩
    | 2 => exact ⟨(a2, i2), fun q hq => by cases hq; exact h2⟩
    | 3 => exact ⟨(a3, i3), fun q hq => by cases hq; exact h3⟩
    | 4 => exact ⟨(a4, i4), fun q hq => by cases hq; exact h4⟩
    | 5 => exact ⟨(a5, i5), fun q hq => by cases hq; exact h5⟩
    | 6 => exact ⟨(a6, i6), fun q hq => by cases hq; exact h6⟩
    | 7 => exact ⟨(a7, i7), fun q hq => by cases hq; exact h7⟩
    | 8 => exact ⟨(a8, i8), fun q hq => by cases hq; exact h8⟩
    | 9 => exact ⟨(a9, i9), fun q hq => by cases hq; exact h9⟩
    | 10 => exact ⟨(a10, i10), fun q hq => by cases hq; exact h10⟩
    | 11 => exact ⟨(a11, i11), fun q hq => by cases hq; exact h11⟩
    | c + 12 => exact ⟨(a0, i0), fun q hq => by simp [vwCl] at hq⟩
  obtain ⟨F, hF⟩ := Classical.axiomOfChoice h
  exact ⟨(fun c => (F c).1, fun c => (F c).2), fun c q hq => hF c q hq⟩
theorem law_arr {args : Array Value} {s : State} (htsB : ∀ w ∈ TB, w.before args s = true) : ∃ cyI cyZ : ClassId, ∀ (k : Nat) (q : ClassId × FieldType), (tysOf cyI cyZ)[k]? = some q → ArrOfT s q.1 q.2 ∧ va_RA s q.1 q.2 := by
  obtain ⟨a, ka, ca, a1, a2, a3⟩ := Cond.arrayClass_spec (htsB _ ar_i)
  obtain ⟨z, kz, cz, z1, z2, z3⟩ := Cond.arrayClass_spec (htsB _ ar_z)
  refine ⟨a, z, fun k q hq => ?_⟩
  match k, hq with
  | 0, hq => cases hq; exact ⟨fun n z => ⟨fun k h => (by cases h), ka, a2, ca, a3⟩, a1⟩
  | 1, hq => cases hq; exact ⟨fun n z => ⟨fun k h => (by cases h), kz, z2, cz, z3⟩, z1⟩
  | k + 2, hq => simp at hq
theorem law_nest {args : Array Value} {s : State} (hts : ∀ w ∈ lw_tbl, w.before args s = true) : NWs s := by
  unfold NWs nestL
  exact List.forall_mem_cons.mpr ⟨va_Nw.of rfl (hts _ (List.mem_of_getElem? (i := 69) (by decide +kernel))), List.forall_mem_cons.mpr ⟨va_Nw.of rfl (hts _ (List.mem_of_getElem? (i := 114) (by decide +kernel))), List.forall_mem_cons.mpr ⟨va_Nw.of rfl (hts _ (List.mem_of_getElem? (i := 312) (by decide +kernel))), List.forall_mem_cons.mpr ⟨va_Nw.of rfl (hts _ (List.mem_of_getElem? (i := 187) (by decide +kernel))), List.forall_mem_cons.mpr ⟨va_Nw.of rfl (hts _ (List.mem_of_getElem? (i := 229) (by decide +kernel))), List.forall_mem_cons.mpr ⟨va_Nw.of rfl (hts _ (List.mem_of_getElem? (i := 256) (by decide +kernel))), List.forall_mem_cons.mpr ⟨va_Nw.of rfl (hts _ (List.mem_of_getElem? (i := 274) (by decide +kernel))), List.forall_mem_cons.mpr ⟨va_Nw.of rfl (hts _ (List.mem_of_getElem? (i := 375) (by decide +kernel))), fun _ h => absurd h List.not_mem_nil⟩⟩⟩⟩⟩⟩⟩⟩
def Z0 : Zt := (fun _ => 0, fun _ => 0, ((0, 0), fun _ _ => 0, fun _ => 0, 41, fun _ => 0, fun _ => 0, 0, fun _ => 0, fun _ => 0, fun _ => 0, fun _ => 0), [])
theorem gz0 : GZ Z0 := by
  have no : ∀ {a : Nat} {p : Prop}, a < 0 → p := fun h => absurd h (Nat.not_lt_zero _)
  exact ⟨⟨Nat.zero_le _, Nat.zero_le _, Nat.zero_le _, fun a b h _ => no h, fun a h => no h, fun a h => no h, ⟨(by decide : (0 : Int) ≤ 41), (by decide : (41 : Int) ≤ 41)⟩, fun i _ => ⟨(by decide : (0 : Int) ≤ 0), (by decide : (0 : Int) ≤ 99)⟩, fun i _ => ⟨(by decide : (0 : Int) ≤ 0), (by decide : (0 : Int) ≤ 50)⟩, fun i h => no h, Nat.zero_le _, fun i h => no h⟩, rfl, ⟨fun s h => absurd h List.not_mem_nil, List.nodup_nil⟩, fun c _ => ⟨(by decide : (0 : Int) ≤ 0), (by decide : (0 : Int) ≤ 3)⟩, fun a h => no h, fun a h => no h⟩
set_option maxRecDepth 100000 in
theorem sC_3 : sC 3 = fun _ => 0 := by
  funext j
  rfl
set_option maxRecDepth 100000 in
theorem sC_5 : sC 5 = fun _ => 0 := by
  funext j
  rfl
set_option maxRecDepth 100000 in
theorem sC_16 : sC 16 = fun _ => 0 := by
  funext j
  rfl
set_option maxRecDepth 100000 in
theorem sC_18 : sC 18 = fun _ => 0 := by
  funext j
  rfl
set_option maxRecDepth 100000 in
theorem sC_20 : sC 20 = fun _ => 0 := by
  funext j
  rfl
set_option maxRecDepth 100000 in
theorem sC_22 : sC 22 = fun _ => 0 := by
  funext j
  rfl
set_option maxRecDepth 100000 in
theorem sC_24 : sC 24 = fun _ => 0 := by
  funext j
  rfl
set_option maxRecDepth 100000 in
theorem sC_26 : sC 26 = fun _ => 0 := by
  funext j
  rfl
set_option maxRecDepth 100000 in
theorem sC_64 : sC 64 = fun _ => 0 := by
  funext j
  rfl
set_option maxRecDepth 100000 in
theorem sC_75 : sC 75 = fun _ => 0 := by
  funext j
  rfl
set_option maxRecDepth 100000 in
theorem sC_76 : sC 76 = fun _ => 0 := by
  funext j
  rfl
set_option maxRecDepth 100000 in
theorem sC_78 : sC 78 = fun _ => 0 := by
  funext j
  rfl
set_option maxRecDepth 100000 in
theorem sC_79 : sC 79 = fun _ => 0 := by
  funext j
  rfl
set_option maxRecDepth 100000 in
theorem sC_80 : sC 80 = fun _ => 0 := by
  funext j
  rfl
set_option maxRecDepth 100000 in
theorem sC_81 : sC 81 = fun _ => 0 := by
  funext j
  rfl
set_option maxRecDepth 100000 in
theorem sC_82 : sC 82 = fun _ => 0 := by
  funext j
  rfl
set_option maxRecDepth 100000 in
theorem sC_83 : sC 83 = fun _ => 0 := by
  funext j
  rfl
theorem sC_1_7 : sC 1 7 = 0 := by decide +kernel
theorem sC_14_6 : sC 14 6 = 0 := by decide +kernel
theorem sC_1_8 : sC 1 8 = 41 := by decide +kernel
theorem sC_14_7 : sC 14 7 = 0 := by decide +kernel
theorem sC_67_1 : sC 67 1 = 0 := by decide +kernel
theorem sC_58_1 : sC 58 1 = 0 := by decide +kernel
theorem sC_51_10 : sC 51 10 = 0 := by decide +kernel
theorem sC_73_2 : sC 73 2 = 0 := by decide +kernel
theorem sC_73_4 : sC 73 4 = 41 := by decide +kernel
theorem sC_73_5 : sC 73 5 = 0 := by decide +kernel
theorem sC_73_9 : sC 73 9 = 0 := by decide +kernel
theorem ci0 {σ : Mem} (hS : Same [74] sC σ) : CI Z0 σ := by
  have no : ∀ {a : Nat} {p : Prop}, a < 0 → p := fun h => absurd h (Nat.not_lt_zero _)
  have e1 := hS 1 (by decide)
  have e14 := hS 14 (by decide)
  refine ⟨(hS 3 (by decide)).trans sC_3, (hS 5 (by decide)).trans sC_5, ⟨by rw [e1]; exact sC_1_7, by rw [e14]; exact sC_14_6, fun a b h _ => no h, fun a h => no h, by rw [e1]; exact sC_1_8, (hS 16 (by decide)).trans sC_16, (hS 18 (by decide)).trans sC_18, by rw [e14]; exact sC_14_7, (hS 20 (by decide)).trans sC_20, (hS 22 (by decide)).trans sC_22, (hS 24 (by decide)).trans sC_24, (hS 26 (by decide)).trans sC_26⟩, fun i h => no h, by rw [hS 67 (by decide)]; exact sC_67_1, ⟨⟨[], fun i h => no h, by rw [hS 58 (by decide)]; exact sC_58_1, ?_⟩, fun t _ => ?_⟩, Or.inl (by rw [hS 51 (by decide)]; exact sC_51_10)⟩
  · exact ⟨Nat.zero_le _, fun s h => absurd h List.not_mem_nil⟩
  · rw [hS 64 (by decide), sC_64]
    exact ⟨(by decide : (0 : Int) ≤ 0), (by decide : (0 : Int) ≤ 268435456)⟩
theorem mi0 {σ : Mem} (h : iQ σ) : MI Z0 σ := by
  have hS := h.1
  have no : ∀ {a : Nat} {p : Prop}, a < 0 → p := fun h => absurd h (Nat.not_lt_zero _)
  have e73 := hS 73 (by decide)
  exact ⟨fun c hc => Or.inl ⟨rfl, h.2 c hc, by rw [hS 75 (by decide), sC_75]⟩, (hS 76 (by decide)).trans sC_76, by rw [e73]; exact sC_73_2, by rw [e73]; exact sC_73_4, by rw [e73]; exact sC_73_5, by rw [e73]; exact sC_73_9, fun i h => no h, (hS 78 (by decide)).trans sC_78, (hS 79 (by decide)).trans sC_79, (hS 80 (by decide)).trans sC_80, (hS 81 (by decide)).trans sC_81, (hS 82 (by decide)).trans sC_82, (hS 83 (by decide)).trans sC_83⟩
set_option maxRecDepth 100000 in
theorem law_body {L : Nat} {f : Nat → Int} (hL : lawI L f) : GW (some (L, f)) mL_law 0 95 0 [some (.inr 95), none, none, none] [] 0 (fun _ _ => 0) (fun v _ => v = 1) := by
  refine gb_new nwL_7 rfl (by decide +kernel) (by decide) (by decide) (by decide) dL_law_0 ?_
  refine gb_dup dL_law_3 ?_
  refine gb_ctor (as := []) (rest := [.inr 0]) oiX10_init (Or.inl miL_9) rfl ⟨Nat.le_of_ble_eq_true rfl, Nat.le_of_ble_eq_true rfl⟩ (by decide) rfl (by decide) (by decide) (by decide) dL_law_4 b_X10_init (fun σ1 e9 => ?_)
  subst e9
  refine gb_astore_n (ls' := [some (.inr 95), some (.inr 0), none, none]) dL_law_7 rfl (by decide) rfl ?_
  refine gb_new nwL_10 rfl (by decide +kernel) (by decide) (by decide) (by decide) dL_law_8 ?_
  refine gb_dup dL_law_11 ?_
  refine gb_ctor (as := []) (rest := [.inr 73]) oiX11_init (Or.inl miL_12) rfl ⟨Nat.le_of_ble_eq_true rfl, Nat.le_of_ble_eq_true rfl⟩ (by decide) rfl (by decide) (by decide) (by decide) dL_law_12 b_X11_init (fun σ1 e9 => ?_)
  refine gb_astore_n (ls' := [some (.inr 95), some (.inr 0), some (.inr 73), none]) dL_law_15 rfl (by decide) rfl ?_
  refine gb_toGO2 rfl rfl (by decide) (full_sC.same e9.1 (fun a ha j => by rw [List.mem_singleton.mp ha]; exact rfs_74 j)) ?_
  refine g_iconst dL_law_16 (by decide) ?_
  refine g_istore_n (ls' := lawLs 0) dL_law_17 rfl (by decide) rfl ?_
  exact law_loop hL (L + 1) 0 (by omega) (by omega) Z0 _ gz0 (ci0 e9.1) (mi0 e9)
