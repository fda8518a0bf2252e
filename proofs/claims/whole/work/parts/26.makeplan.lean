/-! ===== the plan is made, and kept ===== -/
theorem chS_fmin {f : List Nat → Option Int} {pr : List Nat → Int} {c0 : List Nat} : ∀ (E : List (List Nat)) (acc : Option (Int × List Nat)) (s : Int × List Nat), (∀ p ∈ E, (f p = none ∧ 268435456 ≤ pr p) ∨ ∃ v, f p = some v ∧ pr p = v ∧ v < 268435456) → ((acc = none ∧ s = (268435456, c0)) ∨ ∃ a, acc = some a ∧ s = a ∧ a.1 < 268435456) →
    ((E.foldl (fmS f) acc = none ∧ E.foldl (chS pr) s = (268435456, c0)) ∨ ∃ a, E.foldl (fmS f) acc = some a ∧ E.foldl (chS pr) s = a ∧ a.1 < 268435456)
  | [], acc, s, _, h => h
  | p :: E, acc, s, hE, h => by
    have hp := List.forall_mem_cons.mp hE
    rw [List.foldl_cons, List.foldl_cons]
    refine chS_fmin E _ _ hp.2 ?_
    rcases hp.1 with ⟨h1, h2⟩ | ⟨v, h1, h2, h3⟩
    · have ea : fmS f acc p = acc := by unfold fmS; rw [h1]
      have es : chS pr s p = s := by
        unfold chS
        rw [if_neg]
        rcases h with ⟨-, rfl⟩ | ⟨a, -, rfl, h5⟩
        · show ¬ pr p < 268435456; omega
        · omega
      rw [ea, es]
      exact h
    · rcases h with ⟨rfl, rfl⟩ | ⟨a, rfl, rfl, h5⟩
      · right
        refine ⟨(v, p), ?_, ?_, h3⟩
        · unfold fmS; rw [h1]
        · unfold chS
          rw [if_pos (show pr p < 268435456 by omega), h2]
      · right
        by_cases q : v < s.1
        · refine ⟨(v, p), ?_, ?_, h3⟩
          · unfold fmS; rw [h1]; show (if v < s.1 then _ else _) = _; rw [if_pos q]
          · unfold chS
            rw [if_pos (by omega), h2]
        · refine ⟨s, ?_, ?_, h5⟩
          · unfold fmS; rw [h1]; show (if v < s.1 then _ else _) = _; rw [if_neg q]
          · unfold chS
            rw [if_neg (by omega)]
theorem chS_gd {D : Dt} (hw : WF D) {pr : List Nat → Int} : ∀ (E : List (List Nat)) (s : Int × List Nat), (∀ p ∈ E, p ∈ pE D) → gd s.2 → gd (E.foldl (chS pr) s).2
  | [], s, _, h => h
  | p :: E, s, hE, h => by
    have hp := List.forall_mem_cons.mp hE
    rw [List.foldl_cons]
    refine chS_gd hw E _ hp.2 ?_
    unfold chS
    split
    · have := pE_dl hw hp.1
      have hm := hw.2.1
      exact ⟨(by show p.length ≤ 5; rw [this.1]; exact hm), this.2⟩
    · exact h
def PI (σ : Mem) : Prop := (∃ c0, hld σ 60 c0 ∧ σ 58 1 = c0.length ∧ gd c0) ∧ ∀ t, t < 7776 → 0 ≤ σ 64 t ∧ σ 64 t ≤ 268435456
def PlanOK (D : Dt) (n : Nat) (σ : Mem) : Prop := (planP D n = none ∧ σ 51 9 = -1) ∨ ∃ v, planP D n = some v ∧ σ 51 9 = v ∧ ∀ y, y < n → ∃ c, chn D n y = some c ∧ σ 66 y = tld c
noncomputable def latV (D : Dt) (k y : Nat) (p : List Nat) : Int := enc ((fmin (fun q => (bv D k y q).map (· + mvL (dV D) p q)) (pE D)).map (·.1))
theorem latV_bd {D : Dt} (hw : WF D) {k y : Nat} (hy : y + k < 4) {p : List Nat} (hp : p ∈ pE D) : (fmin (fun q => (bv D k y q).map (· + mvL (dV D) p q)) (pE D) = none ∧ latV D k y p = 268435456) ∨ ∃ a, fmin (fun q => (bv D k y q).map (· + mvL (dV D) p q)) (pE D) = some a ∧ latV D k y p = a.1 ∧ 0 ≤ a.1 ∧ a.1 ≤ 360250 := by
  unfold latV
  cases e : fmin (fun q => (bv D k y q).map (· + mvL (dV D) p q)) (pE D) with
  | none => exact Or.inl ⟨rfl, rfl⟩
  | some a =>
    right
    refine ⟨a, rfl, rfl, ?_⟩
    obtain ⟨h1, h2, -⟩ := fmin_some (v := a.1) (q := a.2) e
    have h3 := mvL_bdD hw (p := p) (q := a.2) (pE_ok hp).1
    rcases bv_enc hw hy h1 with ⟨z, -⟩ | ⟨u, z1, z2, z3, z4⟩
    · rw [z] at h2; cases h2
    · rw [z1] at h2
      have : u + mvL (dV D) p a.2 = a.1 := Option.some.inj h2
      omega
theorem rk_last {D : Dt} (hw : WF D) {y : Nat} (hy : y < 4) {p : List Nat} (hp : p ∈ pE D) : rkV D y (fun _ => 0) p = enc (bv D 0 y p) := by
  have hk := pE_ok hp
  have hc := cost_bd hw hy hk.1 hk.2.1
  unfold rkV bv
  split
  · rfl
  · show (if 268435456 ≤ cost D y p + 0 then 268435456 else cost D y p + 0) = cost D y p
    rw [if_neg (by omega)]
    omega
theorem rk_more {D : Dt} (hw : WF D) {k y : Nat} (hy : y + 1 + k < 4) {p : List Nat} (hp : p ∈ pE D) : rkV D y (latV D k (y + 1)) p = enc (bv D (k + 1) y p) := by
  have hk := pE_ok hp
  have hc := cost_bd hw (y := y) (by omega) hk.1 hk.2.1
  unfold rkV bv
  split
  · rfl
  · rcases latV_bd hw (k := k) (y := y + 1) (by omega) hp with ⟨h1, h2⟩ | ⟨a, h1, h2, h3, h4⟩
    · rw [h2, h1, if_pos (by omega)]
      rfl
    · rw [h2, h1, if_neg (by omega)]
      rfl
set_option maxRecDepth 100000 in
theorem rX6_makePlan_0 {x1 : Int}  {σ : Mem} {Q : Int → Mem → Prop} (h : ((σ 51 10) ≠ x1 → ((inR (x1 - 1)) ∧ (GO none mX6_makePlan 13 [some (.inr 51), some (.inl x1), some (.inl (x1 - 1))] [] σ Q))) ∧ ((σ 51 10) = x1 → Q 0 σ)) : CM mX6_makePlan [.inr 51, .inl x1] σ Q := by
  refine CM_of_GO (by decide +kernel) rfl (Nat.le_of_ble_eq_true rfl) ?_
  show GO none mX6_makePlan 0 [some (.inr 51), some (.inl x1), none] [] σ Q
  refine g_aload_n dX6_makePlan_0 rfl rfl ?_
  refine g_getI flX6_43 (by decide) rfl (by decide) rfl dX6_makePlan_1 ?_
  refine g_iload_n dX6_makePlan_4 rfl rfl ?_
  refine g_icmp_ne (tgt := 9) dX6_makePlan_5 (by decide) (fun c1 => ?_) (fun c1 => ?_)
  · have h := h.1 c1
    refine g_iload_n dX6_makePlan_9 rfl rfl ?_
    refine g_iconst dX6_makePlan_10 (by decide) ?_
    obtain ⟨p2, h⟩ := h
    refine g_isub dX6_makePlan_11 p2 ?_
    refine g_istore_n (ls' := [some (.inr 51), some (.inl x1), some (.inl (x1 - 1))]) dX6_makePlan_12 rfl (by decide) rfl ?_
    exact h
  · have h := h.2 c1
    exact g_return rfl dX6_makePlan_8 h
set_option maxRecDepth 100000 in
theorem rX6_makePlan_13 {x1 x2 : Int}  {σ : Mem} {Q : Int → Mem → Prop} (h : (x2 < 0 → GO none mX6_makePlan 60 [some (.inr 51), some (.inl x1), some (.inl 0)] [] (mu σ 51 9 (-1)) Q) ∧ (0 ≤ x2 → ((inR (x1 - 1)) ∧ ((x2 ≠ (x1 - 1) → CM mX6_reckon [.inr 51, .inl x2, .inl 0] σ (fun _ σ5 => (x2 ≤ 0 → ((inR (x2 + (-1))) ∧ (GO none mX6_makePlan 13 [some (.inr 51), some (.inl x1), some (.inl (x2 + (-1)))] [] σ5 Q))) ∧ (0 < x2 → CM mX6_stay [.inr 51, .inl x2] σ5 (fun _ σ10 => CM mX6_letAllMove [.inr 51] σ10 (fun _ σ13 => ((inR (x2 + (-1))) ∧ (GO none mX6_makePlan 13 [some (.inr 51), some (.inl x1), some (.inl (x2 + (-1)))] [] σ13 Q))))))) ∧ (x2 = (x1 - 1) → CM mX6_reckon [.inr 51, .inl x2, .inl 1] σ (fun _ σ17 => (x2 ≤ 0 → ((inR (x2 + (-1))) ∧ (GO none mX6_makePlan 13 [some (.inr 51), some (.inl x1), some (.inl (x2 + (-1)))] [] σ17 Q))) ∧ (0 < x2 → CM mX6_stay [.inr 51, .inl x2] σ17 (fun _ σ22 => CM mX6_letAllMove [.inr 51] σ22 (fun _ σ25 => ((inR (x2 + (-1))) ∧ (GO none mX6_makePlan 13 [some (.inr 51), some (.inl x1), some (.inl (x2 + (-1)))] [] σ25 Q))))))))))) : GO none mX6_makePlan 13 [some (.inr 51), some (.inl x1), some (.inl x2)] [] σ Q := by
  refine g_iload_n dX6_makePlan_13 rfl rfl ?_
  refine g_if_lt (tgt := 53) dX6_makePlan_14 (by decide) (fun c1 => ?_) (fun c1 => ?_)
  · have h := h.1 c1
    refine g_aload_n dX6_makePlan_53 rfl rfl ?_
    refine g_iconst dX6_makePlan_54 (by decide) ?_
    refine g_putI fpX6_39 (by decide) rfl (by decide) rfl (Or.inl rfl) dX6_makePlan_55 ?_
    refine g_iconst dX6_makePlan_58 (by decide) ?_
    refine g_istore_n (ls' := [some (.inr 51), some (.inl x1), some (.inl 0)]) dX6_makePlan_59 rfl (by decide) rfl ?_
    exact h
  · have h := h.2 c1
    refine g_aload_n dX6_makePlan_17 rfl rfl ?_
    refine g_iload_n dX6_makePlan_18 rfl rfl ?_
    refine g_iload_n dX6_makePlan_19 rfl rfl ?_
    refine g_iload_n dX6_makePlan_20 rfl rfl ?_
    refine g_iconst dX6_makePlan_21 (by decide) ?_
    obtain ⟨p2, h⟩ := h
    refine g_isub dX6_makePlan_22 p2 ?_
    refine g_icmp_ne (tgt := 30) dX6_makePlan_23 (by decide) (fun c3 => ?_) (fun c3 => ?_)
    · have h := h.1 c3
      refine g_iconst dX6_makePlan_30 (by decide) ?_
      refine g_invVV (as := [.inl x2, .inl 0]) (rest := []) okX6_reckon mlX6_62 (by decide) rfl ⟨_, _, rfl⟩ rfl ⟨Nat.le_of_ble_eq_true rfl, Nat.le_of_ble_eq_true rfl⟩ (Nat.le_of_ble_eq_true rfl) rfl dX6_makePlan_31 h rfl (fun σ5 e6 => ?_)
      have h := e6
      refine g_iload_n dX6_makePlan_34 rfl rfl ?_
      refine g_if_le (tgt := 47) dX6_makePlan_35 (by decide) (fun c7 => ?_) (fun c7 => ?_)
      · have h := h.1 c7
        obtain ⟨p8, h⟩ := h
        refine g_iinc (ls' := [some (.inr 51), some (.inl x1), some (.inl (x2 + (-1)))]) dX6_makePlan_47 (by decide) rfl p8 rfl ?_
        refine g_goto (tgt := 13) dX6_makePlan_50 (by decide) ?_
        exact h
      · have h := h.2 c7
        refine g_aload_n dX6_makePlan_38 rfl rfl ?_
        refine g_iload_n dX6_makePlan_39 rfl rfl ?_
        refine g_invVV (as := [.inl x2]) (rest := []) okX6_stay mlX6_66 (by decide) rfl ⟨_, _, rfl⟩ rfl ⟨Nat.le_of_ble_eq_true rfl, Nat.le_of_ble_eq_true rfl⟩ (Nat.le_of_ble_eq_true rfl) rfl dX6_makePlan_40 h rfl (fun σ10 e11 => ?_)
        have h := e11
        refine g_aload_n dX6_makePlan_43 rfl rfl ?_
        refine g_invVV (as := []) (rest := []) okX6_letAllMove mlX6_69 (by decide) rfl ⟨_, _, rfl⟩ rfl ⟨Nat.le_of_ble_eq_true rfl, Nat.le_of_ble_eq_true rfl⟩ (Nat.le_of_ble_eq_true rfl) rfl dX6_makePlan_44 h rfl (fun σ13 e14 => ?_)
        have h := e14
        obtain ⟨p15, h⟩ := h
        refine g_iinc (ls' := [some (.inr 51), some (.inl x1), some (.inl (x2 + (-1)))]) dX6_makePlan_47 (by decide) rfl p15 rfl ?_
        refine g_goto (tgt := 13) dX6_makePlan_50 (by decide) ?_
        exact h
    · have h := h.2 c3
      refine g_iconst dX6_makePlan_26 (by decide) ?_
      refine g_goto (tgt := 31) dX6_makePlan_27 (by decide) ?_
      refine g_invVV (as := [.inl x2, .inl 1]) (rest := []) okX6_reckon mlX6_62 (by decide) rfl ⟨_, _, rfl⟩ rfl ⟨Nat.le_of_ble_eq_true rfl, Nat.le_of_ble_eq_true rfl⟩ (Nat.le_of_ble_eq_true rfl) rfl dX6_makePlan_31 h rfl (fun σ17 e18 => ?_)
      have h := e18
      refine g_iload_n dX6_makePlan_34 rfl rfl ?_
      refine g_if_le (tgt := 47) dX6_makePlan_35 (by decide) (fun c19 => ?_) (fun c19 => ?_)
      · have h := h.1 c19
        obtain ⟨p20, h⟩ := h
        refine g_iinc (ls' := [some (.inr 51), some (.inl x1), some (.inl (x2 + (-1)))]) dX6_makePlan_47 (by decide) rfl p20 rfl ?_
        refine g_goto (tgt := 13) dX6_makePlan_50 (by decide) ?_
        exact h
      · have h := h.2 c19
        refine g_aload_n dX6_makePlan_38 rfl rfl ?_
        refine g_iload_n dX6_makePlan_39 rfl rfl ?_
        refine g_invVV (as := [.inl x2]) (rest := []) okX6_stay mlX6_66 (by decide) rfl ⟨_, _, rfl⟩ rfl ⟨Nat.le_of_ble_eq_true rfl, Nat.le_of_ble_eq_true rfl⟩ (Nat.le_of_ble_eq_true rfl) rfl dX6_makePlan_40 h rfl (fun σ22 e23 => ?_)
        have h := e23
        refine g_aload_n dX6_makePlan_43 rfl rfl ?_
        refine g_invVV (as := []) (rest := []) okX6_letAllMove mlX6_69 (by decide) rfl ⟨_, _, rfl⟩ rfl ⟨Nat.le_of_ble_eq_true rfl, Nat.le_of_ble_eq_true rfl⟩ (Nat.le_of_ble_eq_true rfl) rfl dX6_makePlan_44 h rfl (fun σ25 e26 => ?_)
        have h := e26
        obtain ⟨p27, h⟩ := h
        refine g_iinc (ls' := [some (.inr 51), some (.inl x1), some (.inl (x2 + (-1)))]) dX6_makePlan_47 (by decide) rfl p27 rfl ?_
        refine g_goto (tgt := 13) dX6_makePlan_50 (by decide) ?_
        exact h
set_option maxRecDepth 100000 in
theorem rX6_makePlan_60 {x1 x2 : Int}  {σ : Mem} {Q : Int → Mem → Prop} (h : (x1 ≤ x2 → Q 0 (mu σ 51 10 x1)) ∧ (x2 < x1 → CM mX6_choose [.inr 51, .inl x2] σ (fun _ σ3 => ((inR (x2 + 1)) ∧ (GO none mX6_makePlan 60 [some (.inr 51), some (.inl x1), some (.inl (x2 + 1))] [] σ3 Q))))) : GO none mX6_makePlan 60 [some (.inr 51), some (.inl x1), some (.inl x2)] [] σ Q := by
  refine g_iload_n dX6_makePlan_60 rfl rfl ?_
  refine g_iload_n dX6_makePlan_61 rfl rfl ?_
  refine g_icmp_ge (tgt := 76) dX6_makePlan_62 (by decide) (fun c1 => ?_) (fun c1 => ?_)
  · have h := h.1 c1
    refine g_aload_n dX6_makePlan_76 rfl rfl ?_
    refine g_iload_n dX6_makePlan_77 rfl rfl ?_
    refine g_putI fpX6_43 (by decide) rfl (by decide) rfl (Or.inl rfl) dX6_makePlan_78 ?_
    exact g_return rfl dX6_makePlan_81 h
  · have h := h.2 c1
    refine g_aload_n dX6_makePlan_65 rfl rfl ?_
    refine g_iload_n dX6_makePlan_66 rfl rfl ?_
    refine g_invVV (as := [.inl x2]) (rest := []) okX6_choose mlX6_72 (by decide) rfl ⟨_, _, rfl⟩ rfl ⟨Nat.le_of_ble_eq_true rfl, Nat.le_of_ble_eq_true rfl⟩ (Nat.le_of_ble_eq_true rfl) rfl dX6_makePlan_67 h rfl (fun σ3 e4 => ?_)
    have h := e4
    obtain ⟨p5, h⟩ := h
    refine g_iinc (ls' := [some (.inr 51), some (.inl x1), some (.inl (x2 + 1))]) dX6_makePlan_70 (by decide) rfl p5 rfl ?_
    refine g_goto (tgt := 60) dX6_makePlan_73 (by decide) ?_
    exact h
set_option maxRecDepth 100000 in
theorem rX6_toldOf_0 {x1 : Int}  {σ : Mem} {Q : Int → Mem → Prop} (h : ((σ 51 9) ≠ (-1) → ((0 ≤ x1) ∧ (((x1 < 4) ∧ (Q (σ 66 (x1).toNat) σ))))) ∧ ((σ 51 9) = (-1) → Q (-1) σ)) : CM mX6_toldOf [.inr 51, .inl x1] σ Q := by
  refine CM_of_GO (by decide +kernel) rfl (Nat.le_of_ble_eq_true rfl) ?_
  show GO none mX6_toldOf 0 [some (.inr 51), some (.inl x1)] [] σ Q
  refine g_aload_n dX6_toldOf_0 rfl rfl ?_
  refine g_getI flX6_39 (by decide) rfl (by decide) rfl dX6_toldOf_1 ?_
  refine g_iconst dX6_toldOf_4 (by decide) ?_
  refine g_icmp_ne (tgt := 12) dX6_toldOf_5 (by decide) (fun c1 => ?_) (fun c1 => ?_)
  · have h := h.1 c1
    refine g_aload_n dX6_toldOf_12 rfl rfl ?_
    refine g_getR (r' := 65) flX6_36 (by decide) rfl (by decide) rfl dX6_toldOf_13 ?_
    refine g_iload_n dX6_toldOf_16 rfl rfl ?_
    obtain ⟨p2, h⟩ := h
    obtain ⟨p3, h⟩ := h
    refine g_invVI (as := [.inl x1]) (rest := []) okX7_get mlX6_58 (by decide) rfl ⟨_, _, rfl⟩ rfl ⟨Nat.le_of_ble_eq_true rfl, Nat.le_of_ble_eq_true rfl⟩ (Nat.le_of_ble_eq_true rfl) rfl dX6_toldOf_17 (c_X7_get ⟨by decide, by decide, rfl, rfl, rfl⟩ p2 p3) (Or.inl rfl) (fun v4 σ5 e6 => ?_)
    obtain ⟨e6a, e6b⟩ := e6; subst v4; subst σ5
    exact g_ireturn rfl dX6_toldOf_20 h
  · have h := h.2 c1
    refine g_iconst dX6_toldOf_8 (by decide) ?_
    refine g_goto (tgt := 20) dX6_toldOf_9 (by decide) ?_
    exact g_ireturn rfl dX6_toldOf_20 h
noncomputable def onB (D : Dt) (n y : Nat) : List Nat → Int := fun p => enc (bv D (n - 1 - y) y p)
theorem OnR.cg {D : Dt} {y : Nat} {g h : List Nat → Int} {σ : Mem} (h1 : OnR D y g σ) (h2 : ∀ p ∈ pE D, g p = h p) : OnR D y h σ := fun i hi => by rw [h1 i hi]; exact h2 _ (List.getElem_mem hi)
theorem onB_bd {D : Dt} (hw : WF D) {n y : Nat} (hy : y < n) (hn : n ≤ 4) : ∀ p ∈ pE D, 0 ≤ onB D n y p ∧ onB D n y p ≤ 268435456 := fun p hp => by
  unfold onB
  rcases bv_enc hw (k := n - 1 - y) (y := y) (by omega) hp with ⟨-, h⟩ | ⟨v, -, h, h1, h2⟩ <;> omega
theorem PI.same {S : List Nat} {σ σ1 : Mem} (h : PI σ) (hS : Same S σ σ1) (h1 : 58 ∉ S) (h2 : 60 ∉ S) (h3 : 64 ∉ S) : PI σ1 := by
  obtain ⟨⟨c0, a1, a2, a3⟩, b⟩ := h
  exact ⟨⟨c0, a1.cong (hS 60 h2), by rw [hS 58 h1]; exact a2, a3⟩, fun t ht => by rw [hS 64 h3]; exact b t ht⟩
theorem c_X6_makePlan {D : Dt} {n : Nat} {x1 : Int} {σ : Mem} (hw : WF D) (hD : CD D σ) (h1n : 1 ≤ n) (hn4 : n ≤ 4) (e1 : x1 = n) (hPI : PI σ) (hca : σ 51 10 = n → PlanOK D n σ) : CM mX6_makePlan [.inr 51, .inl x1] σ (fun _ σ1 => PlanOK D n σ1 ∧ σ1 51 10 = n ∧ PI σ1 ∧ Same [51, 52, 54, 55, 57, 58, 60, 62, 64, 66] σ σ1) := by
  subst e1
  have hm := hw.2.1
  -- the choices
  have choices : ∀ (d y : Nat) (σ0 : Mem), y + d = n → CD D σ0 → PI σ0 → (∀ y', y' < n → OnR D y' (onB D n y') σ0) → Same [51, 52, 54, 55, 57, 58, 60, 62, 64, 66] σ σ0 → (y = 0 → σ0 51 9 = -1) → (y ≠ 0 → planP D n = none → σ0 51 9 = -1) → (∀ v, y ≠ 0 → planP D n = some v → σ0 51 9 = v ∧ (∀ y', y' < y → ∃ c, chn D n y' = some c ∧ σ0 66 y' = tld c) ∧ ∃ c, chn D n (y - 1) = some c ∧ hld σ0 57 c) → GO none mX6_makePlan 60 [some (.inr 51), some (.inl (n : Int)), some (.inl (y : Int))] [] σ0 (fun _ σ1 => PlanOK D n σ1 ∧ σ1 51 10 = n ∧ PI σ1 ∧ Same [51, 52, 54, 55, 57, 58, 60, 62, 64, 66] σ σ1) := by
    intro d
    induction d with
    | zero =>
      intro y σ0 hd hD0 hPI0 hOn hS h0 hno hsome
      refine rX6_makePlan_60 ⟨fun _ => ⟨?_, by rw [mu_at, if_pos rfl], hPI0.same (S := [51]) (Same.mu (by decide)) (by decide) (by decide) (by decide), hS.tr (Same.mu (by decide))⟩, fun h => by omega⟩
      have hy0 : y ≠ 0 := by omega
      cases e : planP D n with
      | none => exact Or.inl ⟨e, by rw [mu_atn (by decide)]; exact hno hy0 e⟩
      | some v =>
        obtain ⟨a1, a2, -⟩ := hsome v hy0 e
        refine Or.inr ⟨v, e, by rw [mu_atn (by decide)]; exact a1, fun y' hy' => ?_⟩
        obtain ⟨c, b1, b2⟩ := a2 y' (by omega)
        exact ⟨c, b1, by rw [mu_nef (by decide)]; exact b2⟩
    | succ d ih =>
      intro y σ0 hd hD0 hPI0 hOn hS h0 hno hsome
      obtain ⟨⟨c0, p1, p2, p3⟩, p4⟩ := hPI0
      refine rX6_makePlan_60 ⟨fun h => by omega, fun _ => ?_⟩
      have hyn : y < n := by omega
      refine CM.mono (fun v9 σ3 h => ?_) (c_X6_choose (y := y) (c0 := c0) hw hD0 (by omega) rfl (hOn y hyn) (onB_bd hw hyn hn4) p1 p2 p3)
      have hgd := chS_gd hw (pr := fun p => onB D n y p + mvB D y (σ0 57) p) (pE D) (268435456, c0) (fun p hp => hp) p3
      obtain ⟨q1, q2, q3, q4, q5, q6, q7, q8⟩ := h
      refine ⟨by omega, ?_⟩
      have hPI3 : PI σ3 := ⟨⟨_, q1, q2, hgd⟩, fun t ht => by rw [q8 64 (by decide)]; exact p4 t ht⟩
      refine ih (y + 1) σ3 (by omega) (hD0.same q8 (by decide)) hPI3 (fun y' hy' i hi => by rw [q8 62 (by decide)]; exact hOn y' hy' i hi) (hS.tr (q8.wk (by decide))) (fun h => by omega) ?_ ?_
      · intro _ hnone
        by_cases hy0 : y = 0
        · subst hy0
          have hf : fmin (bv D (n - 1) 0) (pE D) = none := by
            unfold planP at hnone
            cases e : fmin (bv D (n - 1) 0) (pE D) with
            | none => rfl
            | some a => rw [e] at hnone; cases hnone
          have hc := chS_fmin (f := bv D (n - 1) 0) (pr := fun p => onB D n 0 p + mvB D 0 (σ0 57) p) (c0 := c0) (pE D) none (268435456, c0) (fun p hp => by
            have e0 : mvB D 0 (σ0 57) p = 0 := by unfold mvB; rw [if_pos rfl]
            have e1 : onB D n 0 p = enc (bv D (n - 1) 0 p) := rfl
            rcases bv_enc hw (k := n - 1) (y := 0) (by omega) hp with ⟨z1, z2⟩ | ⟨u, z1, z2, z3, z4⟩
            · exact Or.inl ⟨z1, by show 268435456 ≤ onB D n 0 p + mvB D 0 (σ0 57) p; omega⟩
            · exact Or.inr ⟨u, z1, by show onB D n 0 p + mvB D 0 (σ0 57) p = u; omega, by omega⟩) (Or.inl ⟨rfl, rfl⟩)
          rcases hc with ⟨-, hc⟩ | ⟨a, hc, -⟩
          · rw [hc] at q7
            rw [q7, if_neg (by show ¬ (0 = 0 ∧ (268435456 : Int) < 268435456); omega)]
            exact h0 rfl
          · unfold fmin at hf
            rw [hf] at hc
            cases hc
        · rw [q7, if_neg (fun z => hy0 z.1)]
          exact hno hy0 hnone
      · intro v _ hv
        have hne : planP D n ≠ none := by rw [hv]; exact fun z => by cases z
        obtain ⟨cy, uy, w1, w2, w3⟩ := chn_ok hne y hyn
        -- what is chosen now
        have hnow : (pE D).foldl (chS (fun p => onB D n y p + mvB D y (σ0 57) p)) (268435456, c0) = ((if y = 0 then v else ((pE D).foldl (chS (fun p => onB D n y p + mvB D y (σ0 57) p)) (268435456, c0)).1), cy) ∧ (y = 0 → v < 268435456) := by
          by_cases hy0 : y = 0
          · subst hy0
            have hc := chS_fmin (f := bv D (n - 1) 0) (pr := fun p => onB D n 0 p + mvB D 0 (σ0 57) p) (c0 := c0) (pE D) none (268435456, c0) (fun p hp => by
              have e0 : mvB D 0 (σ0 57) p = 0 := by unfold mvB; rw [if_pos rfl]
              have e1 : onB D n 0 p = enc (bv D (n - 1) 0 p) := rfl
              rcases bv_enc hw (k := n - 1) (y := 0) (by omega) hp with ⟨z1, z2⟩ | ⟨u, z1, z2, z3, z4⟩
              · exact Or.inl ⟨z1, by show 268435456 ≤ onB D n 0 p + mvB D 0 (σ0 57) p; omega⟩
              · exact Or.inr ⟨u, z1, by show onB D n 0 p + mvB D 0 (σ0 57) p = u; omega, by omega⟩) (Or.inl ⟨rfl, rfl⟩)
            unfold chn at w1
            unfold planP at hv
            unfold fmin at w1 hv
            rcases hc with ⟨hc, -⟩ | ⟨a, hc, hc2, hc3⟩
            · rw [hc] at hv; cases hv
            · rw [hc] at hv w1
              have e1 : a.1 = v := Option.some.inj hv
              have e2 : a.2 = cy := Option.some.inj w1
              rw [hc2, if_pos rfl]
              exact ⟨by rw [← e1, ← e2], fun _ => by omega⟩
          · obtain ⟨-, -, prev, r1, r2⟩ := hsome v hy0 hv
            obtain ⟨z, rfl⟩ : ∃ z, y = z + 1 := ⟨y - 1, by omega⟩
            rw [show z + 1 - 1 = z by omega] at r1
            have hpE : prev ∈ pE D := by
              obtain ⟨c9, -, w9, w8, -⟩ := chn_ok hne z (by omega)
              rw [r1] at w9
              cases w9
              exact w8
            have hpl := (pE_ok hpE).1
            have hmvB : ∀ p, p ∈ pE D → mvB D (z + 1) (σ0 57) p = mvL (dV D) prev p := fun p hp => by
              unfold mvB mvW mvL
              rw [if_neg (by omega), hpl]
              refine sumF_cong (fun j hj => ?_)
              show (if σ0 57 j = (pg p j : Int) then 0 else dV D j) = _
              rw [r2.pg (show j < prev.length by omega)]
              by_cases e : pg prev j = pg p j
              · rw [if_pos (by omega), if_pos e]
              · rw [if_neg (by omega), if_neg e]
            have hc := chS_fmin (f := fun q => (bv D (n - 2 - z) (z + 1) q).map (· + mvL (dV D) prev q)) (pr := fun p => onB D n (z + 1) p + mvB D (z + 1) (σ0 57) p) (c0 := c0) (pE D) none (268435456, c0) (fun p hp => by
              have e0 := hmvB p hp
              have e1 : onB D n (z + 1) p = enc (bv D (n - 2 - z) (z + 1) p) := by unfold onB; rw [show n - 1 - (z + 1) = n - 2 - z by omega]
              have e2 := mvL_bdD hw (p := prev) (q := p) hpl
              rcases bv_enc hw (k := n - 2 - z) (y := z + 1) (by omega) hp with ⟨z1, z2⟩ | ⟨u, z1, z2, z3, z4⟩
              · exact Or.inl ⟨by show (bv D (n - 2 - z) (z + 1) p).map _ = none; rw [z1]; rfl, by show 268435456 ≤ onB D n (z + 1) p + mvB D (z + 1) (σ0 57) p; omega⟩
              · exact Or.inr ⟨u + mvL (dV D) prev p, by show (bv D (n - 2 - z) (z + 1) p).map _ = _; rw [z1]; rfl, by show onB D n (z + 1) p + mvB D (z + 1) (σ0 57) p = _; omega, by omega⟩) (Or.inl ⟨rfl, rfl⟩)
            unfold chn at w1
            rw [r1] at w1
            have w1' : (fmin (fun q => (bv D (n - 2 - z) (z + 1) q).map (· + mvL (dV D) prev q)) (pE D)).map (·.2) = some cy := w1
            unfold fmin at w1'
            rcases hc with ⟨hc, -⟩ | ⟨a, hc, hc2, hc3⟩
            · rw [hc] at w1'; cases w1'
            · rw [hc] at w1'
              have e2 : a.2 = cy := Option.some.inj w1'
              rw [hc2, if_neg (by omega)]
              exact ⟨by rw [← e2], fun h => by omega⟩
        obtain ⟨hnow, hvlt⟩ := hnow
        rw [hnow] at q3 q5 q7
        have q7' : σ3 51 = if y = 0 ∧ (if y = 0 then v else ((pE D).foldl (chS (fun p => onB D n y p + mvB D y (σ0 57) p)) (268435456, c0)).1) < 268435456 then fup (σ0 51) 9 (if y = 0 then v else ((pE D).foldl (chS (fun p => onB D n y p + mvB D y (σ0 57) p)) (268435456, c0)).1) else σ0 51 := q7
        refine ⟨?_, fun y' hy' => ?_, cy, by rw [show y + 1 - 1 = y by omega]; exact w1, q3⟩
        · rw [q7']
          by_cases hy0 : y = 0
          · rw [if_pos hy0, if_pos ⟨hy0, hvlt hy0⟩]
            unfold fup
            rw [if_pos rfl]
          · rw [if_neg (fun z => hy0 z.1)]
            exact (hsome v hy0 hv).1
        · by_cases e : y' = y
          · subst e
            exact ⟨cy, w1, q5⟩
          · obtain ⟨c, b1, b2⟩ := (hsome v (by omega) hv).2.1 y' (by omega)
            exact ⟨c, b1, by rw [q6 y' e]; exact b2⟩
  -- the years, from the last one on
  have years : ∀ (y : Nat) (σ0 : Mem), y ≤ n → CD D σ0 → PI σ0 → (∀ y', y ≤ y' → y' < n → OnR D y' (onB D n y') σ0) → (y ≠ n → y ≠ 0 → ∀ p ∈ pE D, σ0 64 (tn p) = latV D (n - 1 - y) y p) → Same [51, 52, 54, 55, 57, 58, 60, 62, 64, 66] σ σ0 → GO none mX6_makePlan 13 [some (.inr 51), some (.inl (n : Int)), some (.inl ((y : Int) - 1))] [] σ0 (fun _ σ1 => PlanOK D n σ1 ∧ σ1 51 10 = n ∧ PI σ1 ∧ Same [51, 52, 54, 55, 57, 58, 60, 62, 64, 66] σ σ1) := by
    intro y
    induction y with
    | zero =>
      intro σ0 hyn hD0 hPI0 hOn _ hS
      refine rX6_makePlan_13 ⟨fun _ => ?_, fun h => by omega⟩
      exact choices n 0 _ (by omega) (hD0.same (S := [51]) (Same.mu (by decide)) (by decide)) (hPI0.same (S := [51]) (Same.mu (by decide)) (by decide) (by decide) (by decide)) (fun y' hy' i hi => by rw [mu_nef (by decide)]; exact hOn y' (Nat.zero_le _) hy' i hi) (hS.tr (Same.mu (by decide))) (fun _ => by rw [mu_at, if_pos rfl]) (fun h => absurd rfl h) (fun v h => absurd rfl h)
    | succ y ih =>
      intro σ0 hyn hD0 hPI0 hOn hlat hS
      have ey : (((y + 1 : Nat) : Int) - 1) = (y : Int) := by omega
      rw [ey]
      -- behind the reckoning
      have rest : ∀ σ5, (OnR D y (onB D n y) σ5 ∧ (∀ t, t < 720 * y ∨ 720 * (y + 1) ≤ t → σ5 62 t = σ0 62 t) ∧ Same [52, 54, 62] σ0 σ5) → ((y : Int) ≤ 0 → inR ((y : Int) + (-1)) ∧ GO none mX6_makePlan 13 [some (.inr 51), some (.inl (n : Int)), some (.inl ((y : Int) + (-1)))] [] σ5 (fun _ σ1 => PlanOK D n σ1 ∧ σ1 51 10 = n ∧ PI σ1 ∧ Same [51, 52, 54, 55, 57, 58, 60, 62, 64, 66] σ σ1)) ∧ (0 < (y : Int) → CM mX6_stay [.inr 51, .inl (y : Int)] σ5 (fun _ σ10 => CM mX6_letAllMove [.inr 51] σ10 (fun _ σ13 => inR ((y : Int) + (-1)) ∧ GO none mX6_makePlan 13 [some (.inr 51), some (.inl (n : Int)), some (.inl ((y : Int) + (-1)))] [] σ13 (fun _ σ1 => PlanOK D n σ1 ∧ σ1 51 10 = n ∧ PI σ1 ∧ Same [51, 52, 54, 55, 57, 58, 60, 62, 64, 66] σ σ1)))) := by
        intro σ5 ⟨g1, g2, g3⟩
        have hD5 := hD0.same g3 (by decide)
        have hPI5 := hPI0.same g3 (by decide) (by decide) (by decide)
        have hOn5 : ∀ y', y ≤ y' → y' < n → OnR D y' (onB D n y') σ5 := fun y' h1 h2 => by
          by_cases e : y' = y
          · subst e; exact g1
          · intro i hi
            have hl := pE_len hw
            rw [g2 _ (by omega)]
            exact hOn y' (by omega) h2 i hi
        have hS5 := hS.tr (g3.wk (S' := [51, 52, 54, 55, 57, 58, 60, 62, 64, 66]) (by decide))
        refine ⟨fun h => ⟨by omega, ?_⟩, fun h => ?_⟩
        · have := ih σ5 (by omega) hD5 hPI5 hOn5 (fun _ h2 => absurd (by omega) h2) hS5
          rw [show (y : Int) - 1 = (y : Int) + (-1) by omega] at this
          exact this
        · refine CM.mono (fun v9 σ10 h => ?_) (c_X6_stay (y := y) hw hD5 (by omega) rfl g1 (onB_bd hw (by omega) hn4) hPI5.2)
          obtain ⟨r1, r2, r3⟩ := h
          have hD10 := hD5.same r3 (by decide)
          refine CM.mono (fun v9 σ13 h => ?_) (c_X6_letAllMove (m := dm D) (w := dV D) hD10.2.1 hm hD10.2.2.2.2.2.2.1 hw.2.2.2.2.2.2.2.2.1 r2)
          have h : σ13 = setA σ10 64 (alF (dV D) (dm D) (σ10 64) (dm D)) := h
          have r4 : Same [64] σ10 σ13 := by rw [h]; exact Same.setA (by decide)
          refine ⟨by omega, ?_⟩
          have hPI13 : PI σ13 := by
            obtain ⟨⟨c0, a1, a2, a3⟩, b⟩ := hPI5
            refine ⟨⟨c0, (a1.cong (r3 60 (by decide))).cong (r4 60 (by decide)), by rw [r4 58 (by decide), r3 58 (by decide)]; exact a2, a3⟩, fun t ht => ?_⟩
            rw [h, setA_eq]
            have abd : ∀ i, i ≤ dm D → ∀ t, t < 7776 → 0 ≤ alF (dV D) (dm D) (σ10 64) i t ∧ alF (dV D) (dm D) (σ10 64) i t ≤ 268435456 := by
              intro i
              induction i with
              | zero => intro _; exact r2
              | succ i ih2 => intro hi; exact dnF_bd hm (by omega) (hw.2.2.2.2.2.2.2.2.1 i (by omega)).1 (Nat.le_refl _) (Or.inl rfl) (ih2 (by omega))
            exact abd (dm D) (Nat.le_refl _) t ht
          have := ih σ13 (by omega) (hD10.same r4 (by decide)) hPI13 (fun y' h1 h2 i hi => by rw [r4 62 (by decide), r3 62 (by decide)]; exact hOn5 y' h1 h2 i hi) (fun _ _ p hp => by
            rw [h, setA_eq]
            exact alF_lat hw (by omega) r1 hp) ((hS5.tr (r3.wk (by decide))).tr (r4.wk (by decide)))
          rw [show (y : Int) - 1 = (y : Int) + (-1) by omega] at this
          exact this
      refine rX6_makePlan_13 ⟨fun h => by omega, fun _ => ⟨by omega, fun h => ?_, fun h => ?_⟩⟩
      · refine CM.mono (fun v9 σ5 hq => rest σ5 ⟨hq.1.cg (fun p hp => ?_), hq.2⟩) (c_X6_reckon (y := y) (lat := latV D (n - 1 - (y + 1)) (y + 1)) hw hD0 (by omega) rfl (fun p hp => by rcases latV_bd hw (k := n - 1 - (y + 1)) (y := y + 1) (by omega) hp with ⟨-, z⟩ | ⟨a, -, z, z1, z2⟩ <;> omega) (fun _ p hp => hlat (by omega) (by omega) p hp) (fun h9 => absurd rfl h9))
        rw [rk_more hw (by omega) hp]
        unfold onB
        rw [show n - 1 - (y + 1) + 1 = n - 1 - y by omega]
      · refine CM.mono (fun v9 σ5 hq => rest σ5 ⟨hq.1.cg (fun p hp => ?_), hq.2⟩) (c_X6_reckon (y := y) (lat := fun _ => 0) hw hD0 (by omega) rfl (fun p hp => by show (0 : Int) ≤ 0 ∧ (0 : Int) ≤ 268435456; omega) (fun h9 => absurd h9 (by decide)) (fun _ p hp => rfl))
        rw [rk_last hw (by omega) hp]
        unfold onB
        rw [show n - 1 - y = 0 by omega]
  refine rX6_makePlan_0 ⟨fun h => ⟨by omega, ?_⟩, fun h => ⟨hca h, h, hPI, Same.rf⟩⟩
  exact years n σ (Nat.le_refl _) hD hPI (fun y' h1 h2 => by omega) (fun h => absurd rfl h) Same.rf
theorem c_X6_toldOf {D : Dt} {n y : Nat} {x1 : Int} {σ : Mem} (hp : PlanOK D n σ) (hy : y < n) (hn : n ≤ 4) (hpos : ∀ v, planP D n = some v → v ≠ -1) (e1 : x1 = y) : CM mX6_toldOf [.inr 51, .inl x1] σ (fun v σ1 => v = (match planP D n with
    | none => -1
    | some _ => pldV D n y) ∧ σ1 = σ) := by
  subst e1
  refine rX6_toldOf_0 ⟨fun h => ⟨by omega, by omega, ?_, rfl⟩, fun h => ⟨?_, rfl⟩⟩
  · rcases hp with ⟨-, h2⟩ | ⟨v, h1, h2, h3⟩
    · exact absurd h2 h
    · obtain ⟨c, q1, q2⟩ := h3 y hy
      rw [h1, Int.toNat_natCast, q2]
      unfold pldV
      rw [q1]
  · rcases hp with ⟨h1, -⟩ | ⟨v, h1, h2, h3⟩
    · rw [h1]
    · exact absurd (h2.symm.trans h) (hpos v h1)
