/-! ===== the reference: the table of moves ===== -/
set_option maxRecDepth 100000 in
theorem rX11_stepTo_0 {x1 x2 x3 : Int}  {σ : Mem} {Q : Int → Mem → Prop} (h : CM mX11_layRow [.inr 73, .inl x1] σ (fun v1 σ2 => GO none mX11_stepTo 9 [some (.inr 73), some (.inl x1), some (.inl x2), some (.inl x3), some (.inl 0)] [] σ2 Q)) : CM mX11_stepTo [.inr 73, .inl x1, .inl x2, .inl x3] σ Q := by
  refine CM_of_GO (by decide +kernel) rfl (Nat.le_of_ble_eq_true rfl) ?_
  show GO none mX11_stepTo 0 [some (.inr 73), some (.inl x1), some (.inl x2), some (.inl x3), none] [] σ Q
  refine g_aload_n dX11_stepTo_0 rfl rfl ?_
  refine g_iload_n dX11_stepTo_1 rfl rfl ?_
  refine g_invVI (as := [.inl x1]) (rest := []) okX11_layRow mlX11_149 (by decide) rfl ⟨_, _, rfl⟩ rfl ⟨Nat.le_of_ble_eq_true rfl, Nat.le_of_ble_eq_true rfl⟩ (Nat.le_of_ble_eq_true rfl) rfl dX11_stepTo_2 h (Or.inr rfl) (fun v1 σ2 e3 => ?_)
  have h := e3
  refine g_pop dX11_stepTo_5 ?_
  refine g_iconst dX11_stepTo_6 (by decide) ?_
  refine g_istore (ls' := [some (.inr 73), some (.inl x1), some (.inl x2), some (.inl x3), some (.inl 0)]) dX11_stepTo_7 (by decide) rfl ?_
  exact h
set_option maxRecDepth 100000 in
theorem rX11_stepTo_9 {x1 x2 x3 x4 : Int}  {σ : Mem} {Q : Int → Mem → Prop} (h : ((σ 73 5) ≤ x4 → ((0 ≤ x2) ∧ (((x2 < 5) ∧ (CM mX11_numberOf [.inr 73] (mu σ 88 (x2).toNat x3) (fun v4 σ5 => Q v4 σ5)))))) ∧ (x4 < (σ 73 5) → ((0 ≤ x4) ∧ (((x4 < 5) ∧ (((σ 88 (x4).toNat) ≠ x3 → ((inR (x4 + 1)) ∧ (GO none mX11_stepTo 9 [some (.inr 73), some (.inl x1), some (.inl x2), some (.inl x3), some (.inl (x4 + 1))] [] σ Q))) ∧ ((σ 88 (x4).toNat) = x3 → Q (-1) σ))))))) : GO none mX11_stepTo 9 [some (.inr 73), some (.inl x1), some (.inl x2), some (.inl x3), some (.inl x4)] [] σ Q := by
  refine g_iload dX11_stepTo_9 rfl ?_
  refine g_aload_n dX11_stepTo_11 rfl rfl ?_
  refine g_getI flX11_85 (by decide) rfl (by decide) rfl dX11_stepTo_12 ?_
  refine g_icmp_ge (tgt := 37) dX11_stepTo_15 (by decide) (fun c1 => ?_) (fun c1 => ?_)
  · have h := h.1 c1
    refine g_aload_n dX11_stepTo_37 rfl rfl ?_
    refine g_getR (r' := 88) flX11_57 (by decide) rfl (by decide) rfl dX11_stepTo_38 ?_
    refine g_iload_n dX11_stepTo_41 rfl rfl ?_
    refine g_iload_n dX11_stepTo_42 rfl rfl ?_
    obtain ⟨p2, h⟩ := h
    obtain ⟨p3, h⟩ := h
    refine g_iast (by decide) rfl p2 p3 dX11_stepTo_43 ?_
    refine g_aload_n dX11_stepTo_44 rfl rfl ?_
    refine g_invVI (as := []) (rest := []) okX11_numberOf mlX11_159 (by decide) rfl ⟨_, _, rfl⟩ rfl ⟨Nat.le_of_ble_eq_true rfl, Nat.le_of_ble_eq_true rfl⟩ (Nat.le_of_ble_eq_true rfl) rfl dX11_stepTo_45 h (Or.inl rfl) (fun v4 σ5 e6 => ?_)
    have h := e6
    exact g_ireturn rfl dX11_stepTo_48 h
  · have h := h.2 c1
    refine g_aload_n dX11_stepTo_18 rfl rfl ?_
    refine g_getR (r' := 88) flX11_57 (by decide) rfl (by decide) rfl dX11_stepTo_19 ?_
    refine g_iload dX11_stepTo_22 rfl ?_
    obtain ⟨p7, h⟩ := h
    obtain ⟨p8, h⟩ := h
    refine g_iald (by decide) rfl p7 p8 dX11_stepTo_24 ?_
    refine g_iload_n dX11_stepTo_25 rfl rfl ?_
    refine g_icmp_ne (tgt := 31) dX11_stepTo_26 (by decide) (fun c9 => ?_) (fun c9 => ?_)
    · have h := h.1 c9
      obtain ⟨p10, h⟩ := h
      refine g_iinc (ls' := [some (.inr 73), some (.inl x1), some (.inl x2), some (.inl x3), some (.inl (x4 + 1))]) dX11_stepTo_31 (by decide) rfl p10 rfl ?_
      refine g_goto (tgt := 9) dX11_stepTo_34 (by decide) ?_
      exact h
    · have h := h.2 c9
      refine g_iconst dX11_stepTo_29 (by decide) ?_
      exact g_ireturn rfl dX11_stepTo_30 h
set_option maxRecDepth 100000 in
theorem rX11_withStep_0 {x1 x2 x3 : Int}  {σ : Mem} {Q : Int → Mem → Prop} (h : CM mX11_stepTo [.inr 73, .inl x1, .inl x2, .inl x3] σ (fun v1 σ2 => (v1 = (-1) → Q 100000000 σ2) ∧ (v1 ≠ (-1) → ((0 ≤ v1) ∧ (((v1 < 7776) ∧ (((σ2 91 (v1).toNat) ≠ 100000000 → ((0 ≤ x2) ∧ (((x2 < 5) ∧ (((inR (1000 * (σ2 79 (x2).toNat))) ∧ (((inR ((σ2 91 (v1).toNat) + (1000 * (σ2 79 (x2).toNat)))) ∧ (((inR (((σ2 91 (v1).toNat) + (1000 * (σ2 79 (x2).toNat))) + 1)) ∧ (Q (((σ2 91 (v1).toNat) + (1000 * (σ2 79 (x2).toNat))) + 1) σ2))))))))))) ∧ ((σ2 91 (v1).toNat) = 100000000 → Q 100000000 σ2)))))))) : CM mX11_withStep [.inr 73, .inl x1, .inl x2, .inl x3] σ Q := by
  refine CM_of_GO (by decide +kernel) rfl (Nat.le_of_ble_eq_true rfl) ?_
  show GO none mX11_withStep 0 [some (.inr 73), some (.inl x1), some (.inl x2), some (.inl x3), none] [] σ Q
  refine g_aload_n dX11_withStep_0 rfl rfl ?_
  refine g_iload_n dX11_withStep_1 rfl rfl ?_
  refine g_iload_n dX11_withStep_2 rfl rfl ?_
  refine g_iload_n dX11_withStep_3 rfl rfl ?_
  refine g_invVI (as := [.inl x1, .inl x2, .inl x3]) (rest := []) okX11_stepTo mlX11_174 (by decide) rfl ⟨_, _, rfl⟩ rfl ⟨Nat.le_of_ble_eq_true rfl, Nat.le_of_ble_eq_true rfl⟩ (Nat.le_of_ble_eq_true rfl) rfl dX11_withStep_4 h (Or.inl rfl) (fun v1 σ2 e3 => ?_)
  have h := e3
  refine g_istore (ls' := [some (.inr 73), some (.inl x1), some (.inl x2), some (.inl x3), some (.inl v1)]) dX11_withStep_7 (by decide) rfl ?_
  refine g_iload dX11_withStep_9 rfl ?_
  refine g_iconst dX11_withStep_11 (by decide) ?_
  refine g_icmp_eq (tgt := 27) dX11_withStep_12 (by decide) (fun c4 => ?_) (fun c4 => ?_)
  · have h := h.1 c4
    refine g_ldc (n := 100000000) dX11_withStep_27 kcX11_138 (by decide) (by decide) ?_
    refine g_goto (tgt := 52) dX11_withStep_29 (by decide) ?_
    exact g_ireturn rfl dX11_withStep_52 h
  · have h := h.2 c4
    refine g_aload_n dX11_withStep_15 rfl rfl ?_
    refine g_getR (r' := 91) flX11_66 (by decide) rfl (by decide) rfl dX11_withStep_16 ?_
    refine g_iload dX11_withStep_19 rfl ?_
    obtain ⟨p5, h⟩ := h
    obtain ⟨p6, h⟩ := h
    refine g_iald (by decide) rfl p5 p6 dX11_withStep_21 ?_
    refine g_ldc (n := 100000000) dX11_withStep_22 kcX11_138 (by decide) (by decide) ?_
    refine g_icmp_ne (tgt := 32) dX11_withStep_24 (by decide) (fun c7 => ?_) (fun c7 => ?_)
    · have h := h.1 c7
      refine g_aload_n dX11_withStep_32 rfl rfl ?_
      refine g_getR (r' := 91) flX11_66 (by decide) rfl (by decide) rfl dX11_withStep_33 ?_
      refine g_iload dX11_withStep_36 rfl ?_
      refine g_iald (by decide) rfl p5 p6 dX11_withStep_38 ?_
      refine g_sipush dX11_withStep_39 (by decide) (by decide) ?_
      refine g_aload_n dX11_withStep_42 rfl rfl ?_
      refine g_getR (r' := 79) flX11_30 (by decide) rfl (by decide) rfl dX11_withStep_43 ?_
      refine g_iload_n dX11_withStep_46 rfl rfl ?_
      obtain ⟨p8, h⟩ := h
      obtain ⟨p9, h⟩ := h
      refine g_iald (by decide) rfl p8 p9 dX11_withStep_47 ?_
      obtain ⟨p10, h⟩ := h
      refine g_imul dX11_withStep_48 p10 ?_
      obtain ⟨p11, h⟩ := h
      refine g_iadd dX11_withStep_49 p11 ?_
      refine g_iconst dX11_withStep_50 (by decide) ?_
      obtain ⟨p12, h⟩ := h
      refine g_iadd dX11_withStep_51 p12 ?_
      exact g_ireturn rfl dX11_withStep_52 h
    · have h := h.2 c7
      refine g_ldc (n := 100000000) dX11_withStep_27 kcX11_138 (by decide) (by decide) ?_
      refine g_goto (tgt := 52) dX11_withStep_29 (by decide) ?_
      exact g_ireturn rfl dX11_withStep_52 h
set_option maxRecDepth 100000 in
theorem rX11_leastStep_0 {x1 : Int}  {σ : Mem} {Q : Int → Mem → Prop} (h : ((0 ≤ x1) ∧ (((x1 < 7776) ∧ (GO none mX11_leastStep 9 [some (.inr 73), some (.inl x1), some (.inl (σ 91 (x1).toNat)), some (.inl 0), none, none] [] σ Q))))) : CM mX11_leastStep [.inr 73, .inl x1] σ Q := by
  refine CM_of_GO (by decide +kernel) rfl (Nat.le_of_ble_eq_true rfl) ?_
  show GO none mX11_leastStep 0 [some (.inr 73), some (.inl x1), none, none, none, none] [] σ Q
  refine g_aload_n dX11_leastStep_0 rfl rfl ?_
  refine g_getR (r' := 91) flX11_66 (by decide) rfl (by decide) rfl dX11_leastStep_1 ?_
  refine g_iload_n dX11_leastStep_4 rfl rfl ?_
  obtain ⟨p1, h⟩ := h
  obtain ⟨p2, h⟩ := h
  refine g_iald (by decide) rfl p1 p2 dX11_leastStep_5 ?_
  refine g_istore_n (ls' := [some (.inr 73), some (.inl x1), some (.inl (σ 91 (x1).toNat)), none, none, none]) dX11_leastStep_6 rfl (by decide) rfl ?_
  refine g_iconst dX11_leastStep_7 (by decide) ?_
  refine g_istore_n (ls' := [some (.inr 73), some (.inl x1), some (.inl (σ 91 (x1).toNat)), some (.inl 0), none, none]) dX11_leastStep_8 rfl (by decide) rfl ?_
  exact h
set_option maxRecDepth 100000 in
theorem rX11_leastStep_9 {x1 x2 x3 : Int}  {σ : Mem} {Q : Int → Mem → Prop} (h : ((σ 73 5) ≤ x3 → Q x2 σ) ∧ (x3 < (σ 73 5) → GO none mX11_leastStep 20 [some (.inr 73), some (.inl x1), some (.inl x2), some (.inl x3), some (.inl 0), none] [] σ Q)) : GO none mX11_leastStep 9 [some (.inr 73), some (.inl x1), some (.inl x2), some (.inl x3), none, none] [] σ Q := by
  refine g_iload_n dX11_leastStep_9 rfl rfl ?_
  refine g_aload_n dX11_leastStep_10 rfl rfl ?_
  refine g_getI flX11_85 (by decide) rfl (by decide) rfl dX11_leastStep_11 ?_
  refine g_icmp_ge (tgt := 64) dX11_leastStep_14 (by decide) (fun c1 => ?_) (fun c1 => ?_)
  · have h := h.1 c1
    refine g_iload_n dX11_leastStep_64 rfl rfl ?_
    exact g_ireturn rfl dX11_leastStep_65 h
  · have h := h.2 c1
    refine g_iconst dX11_leastStep_17 (by decide) ?_
    refine g_istore (ls' := [some (.inr 73), some (.inl x1), some (.inl x2), some (.inl x3), some (.inl 0), none]) dX11_leastStep_18 (by decide) rfl ?_
    exact h
set_option maxRecDepth 100000 in
theorem rX11_leastStep_20 {x1 x2 x3 x4 : Int}  {σ : Mem} {Q : Int → Mem → Prop} (h : ((σ 73 2) ≤ x4 → ((inR (x3 + 1)) ∧ (GO none mX11_leastStep 9 [some (.inr 73), some (.inl x1), some (.inl x2), some (.inl (x3 + 1)), none, none] [] σ Q))) ∧ (x4 < (σ 73 2) → CM mX11_withStep [.inr 73, .inl x1, .inl x3, .inl x4] σ (fun v3 σ4 => (x2 ≤ v3 → ((inR (x4 + 1)) ∧ (GO none mX11_leastStep 20 [some (.inr 73), some (.inl x1), some (.inl x2), some (.inl x3), some (.inl (x4 + 1)), none] [] σ4 Q))) ∧ (v3 < x2 → ((inR (x4 + 1)) ∧ (GO none mX11_leastStep 20 [some (.inr 73), some (.inl x1), some (.inl v3), some (.inl x3), some (.inl (x4 + 1)), none] [] σ4 Q)))))) : GO none mX11_leastStep 20 [some (.inr 73), some (.inl x1), some (.inl x2), some (.inl x3), some (.inl x4), none] [] σ Q := by
  refine g_iload dX11_leastStep_20 rfl ?_
  refine g_aload_n dX11_leastStep_22 rfl rfl ?_
  refine g_getI flX11_82 (by decide) rfl (by decide) rfl dX11_leastStep_23 ?_
  refine g_icmp_ge (tgt := 58) dX11_leastStep_26 (by decide) (fun c1 => ?_) (fun c1 => ?_)
  · have h := h.1 c1
    obtain ⟨p2, h⟩ := h
    refine g_iinc (ls' := [some (.inr 73), some (.inl x1), some (.inl x2), some (.inl (x3 + 1)), some (.inl x4), none]) dX11_leastStep_58 (by decide) rfl p2 rfl ?_
    refine g_goto (tgt := 9) dX11_leastStep_61 (by decide) ?_
    refine g_kill (i := 4) (ls' := [some (.inr 73), some (.inl x1), some (.inl x2), some (.inl (x3 + 1)), none, none]) rfl ?_
    exact h
  · have h := h.2 c1
    refine g_aload_n dX11_leastStep_29 rfl rfl ?_
    refine g_iload_n dX11_leastStep_30 rfl rfl ?_
    refine g_iload_n dX11_leastStep_31 rfl rfl ?_
    refine g_iload dX11_leastStep_32 rfl ?_
    refine g_invVI (as := [.inl x1, .inl x3, .inl x4]) (rest := []) okX11_withStep mlX11_178 (by decide) rfl ⟨_, _, rfl⟩ rfl ⟨Nat.le_of_ble_eq_true rfl, Nat.le_of_ble_eq_true rfl⟩ (Nat.le_of_ble_eq_true rfl) rfl dX11_leastStep_34 h (Or.inl rfl) (fun v3 σ4 e5 => ?_)
    have h := e5
    refine g_istore (ls' := [some (.inr 73), some (.inl x1), some (.inl x2), some (.inl x3), some (.inl x4), some (.inl v3)]) dX11_leastStep_37 (by decide) rfl ?_
    refine g_iload dX11_leastStep_39 rfl ?_
    refine g_iload_n dX11_leastStep_41 rfl rfl ?_
    refine g_icmp_ge (tgt := 50) dX11_leastStep_42 (by decide) (fun c6 => ?_) (fun c6 => ?_)
    · have h := h.1 c6
      refine g_iload_n dX11_leastStep_50 rfl rfl ?_
      refine g_istore_n (ls' := [some (.inr 73), some (.inl x1), some (.inl x2), some (.inl x3), some (.inl x4), some (.inl v3)]) dX11_leastStep_51 rfl (by decide) rfl ?_
      obtain ⟨p7, h⟩ := h
      refine g_iinc (ls' := [some (.inr 73), some (.inl x1), some (.inl x2), some (.inl x3), some (.inl (x4 + 1)), some (.inl v3)]) dX11_leastStep_52 (by decide) rfl p7 rfl ?_
      refine g_goto (tgt := 20) dX11_leastStep_55 (by decide) ?_
      refine g_kill (i := 5) (ls' := [some (.inr 73), some (.inl x1), some (.inl x2), some (.inl x3), some (.inl (x4 + 1)), none]) rfl ?_
      exact h
    · have h := h.2 c6
      refine g_iload dX11_leastStep_45 rfl ?_
      refine g_goto (tgt := 51) dX11_leastStep_47 (by decide) ?_
      refine g_istore_n (ls' := [some (.inr 73), some (.inl x1), some (.inl v3), some (.inl x3), some (.inl x4), some (.inl v3)]) dX11_leastStep_51 rfl (by decide) rfl ?_
      obtain ⟨p8, h⟩ := h
      refine g_iinc (ls' := [some (.inr 73), some (.inl x1), some (.inl v3), some (.inl x3), some (.inl (x4 + 1)), some (.inl v3)]) dX11_leastStep_52 (by decide) rfl p8 rfl ?_
      refine g_goto (tgt := 20) dX11_leastStep_55 (by decide) ?_
      refine g_kill (i := 5) (ls' := [some (.inr 73), some (.inl x1), some (.inl v3), some (.inl x3), some (.inl (x4 + 1)), none]) rfl ?_
      exact h
def wOf (D : Dt) (a : Nat) : Int := 1000 * dV D a + 1
theorem set_s6 {p : List Nat} {a s : Nat} (h : ∀ t ∈ p, t < 6) (hs : s < 6) : ∀ t ∈ p.set a s, t < 6 := fun t ht => by
  rcases List.mem_or_eq_of_mem_set ht with q | q
  · exact h t q
  · rw [q]; exact hs
def stV (p : List Nat) (a s : Nat) : Int := if s ∈ p then -1 else nm (p.set a s)
theorem c_X11_stepTo {Z : Zt} {σ : Mem} {p : List Nat} {a s : Nat} {x1 x2 x3 : Int} (hZ : GZ Z) (hM : MI Z σ) (hl : p.length = dm (zD Z)) (h6 : ∀ t ∈ p, t < 6) (ha : a < dm (zD Z)) (hs : s < 6) (e1 : x1 = nm p) (e2 : x2 = a) (e3 : x3 = s) : CM mX11_stepTo [.inr 73, .inl x1, .inl x2, .inl x3] σ (fun v σ1 => v = stV p a s ∧ Same [88] σ σ1) := by
  subst e2 e3
  have h5 := hZ.m5
  have key : ∀ (d i : Nat) (σ0 : Mem), i + d = dm (zD Z) → hld σ0 88 p → Same [88] σ σ0 → (∀ j, j < i → pg p j ≠ s) → GO none mX11_stepTo 9 [some (.inr 73), some (.inl x1), some (.inl (a : Int)), some (.inl (s : Int)), some (.inl (i : Int))] [] σ0 (fun v σ1 => v = stV p a s ∧ Same [88] σ σ1) := by
    intro d
    induction d with
    | zero =>
      intro i σ0 hd hh hS hno
      have hm : σ0 73 5 = dm (zD Z) := by rw [hS 73 (by decide)]; exact hM.m
      refine rX11_stepTo_9 ⟨fun _ => ⟨by omega, by omega, ?_⟩, fun h => by omega⟩
      rw [Int.toNat_natCast]
      have hS1 : Same [88] σ (mu σ0 88 a (s : Int)) := hS.tr (Same.mu (by decide))
      refine CM.mono (fun v σ1 hq => ?_) (c_X11_numberOf (p := p.set a s) hZ (hM.same (MSm.same hS1 (by decide)) (by decide)) (by rw [List.length_set]; exact hl) (set_s6 h6 hs) (hh.set (by omega) s))
      obtain ⟨rfl, rfl⟩ := hq
      refine ⟨?_, hS1⟩
      unfold stV
      rw [if_neg (fun w => ?_)]
      obtain ⟨j, hj, e⟩ := mem_pg w
      exact hno j (by omega) e
    | succ d ih =>
      intro i σ0 hd hh hS hno
      have hm : σ0 73 5 = dm (zD Z) := by rw [hS 73 (by decide)]; exact hM.m
      refine rX11_stepTo_9 ⟨fun h => by omega, fun _ => ⟨by omega, by omega, ?_⟩⟩
      rw [Int.toNat_natCast, hh.pg (by omega)]
      refine ⟨fun h => ⟨by omega, ih (i + 1) σ0 (by omega) hh hS (fun j hj => ?_)⟩, fun h => ⟨?_, hS⟩⟩
      · by_cases e : j = i
        · rw [e]; omega
        · exact hno j (by omega)
      · unfold stV
        rw [if_pos]
        have e : pg p i = s := by omega
        exact e ▸ pg_mem (by omega)
  refine rX11_stepTo_0 (CM.mono (fun _ σ1 hq => ?_) (c_X11_layRow (k := nm p) hZ hM (by rw [← hl]; exact nm_lt p h6) e1))
  obtain ⟨-, q1, q2⟩ := hq
  rw [dig_nm _ p hl h6] at q1
  exact key (dm (zD Z)) 0 σ1 (by omega) q1 q2 (fun j h => by omega)
def wstV (D : Dt) (F : Nat → Int) (p : List Nat) (a s : Nat) : Int := if s ∈ p then 100000000 else if F (nm (p.set a s)) = 100000000 then 100000000 else F (nm (p.set a s)) + wOf D a
theorem c_X11_withStep {Z : Zt} {σ : Mem} {p : List Nat} {a s : Nat} {x1 x2 x3 : Int} (hZ : GZ Z) (hM : MI Z σ) (hl : p.length = dm (zD Z)) (h6 : ∀ t ∈ p, t < 6) (hF : ∀ t, t < 6 ^ dm (zD Z) → 0 ≤ σ 91 t ∧ σ 91 t ≤ 100000000) (ha : a < dm (zD Z)) (hs : s < 6) (e1 : x1 = nm p) (e2 : x2 = a) (e3 : x3 = s) : CM mX11_withStep [.inr 73, .inl x1, .inl x2, .inl x3] σ (fun v σ1 => v = wstV (zD Z) (σ 91) p a s ∧ Same [88] σ σ1) := by
  have h5 := hZ.m5
  have hw := hZ.wf.2.2.2.2.2.2.2.2.1 a (by omega)
  refine rX11_withStep_0 (CM.mono (fun v σ1 hq => ?_) (c_X11_stepTo hZ hM hl h6 ha hs e1 e2 e3))
  subst e2
  obtain ⟨rfl, hS⟩ := hq
  have e91 : σ1 91 = σ 91 := hS 91 (by decide)
  have e79 : σ1 79 = dV (zD Z) := by rw [hS 79 (by decide)]; exact hM.v
  unfold stV wstV wOf
  by_cases hm : s ∈ p
  · rw [if_pos hm, if_pos hm]
    exact ⟨fun _ => ⟨rfl, hS⟩, fun h => absurd rfl h⟩
  · rw [if_neg hm, if_neg hm]
    have hlt := nm_lt (p.set a s) (set_s6 h6 hs)
    rw [List.length_set, hl] at hlt
    have hp6 := pow6_le h5
    have hb := hF _ hlt
    refine ⟨fun h => by omega, fun _ => ⟨by omega, by omega, ?_⟩⟩
    rw [Int.toNat_natCast, e91, Int.toNat_natCast, e79]
    generalize σ 91 (nm (p.set a s)) = f at *
    exact ⟨fun h => ⟨by omega, by omega, by omega, by omega, by omega, by rw [if_neg h]; omega, hS⟩, fun h => ⟨by rw [if_pos h], hS⟩⟩
/-- what a least step is -/
def lsR (D : Dt) (F : Nat → Int) (p : List Nat) (v : Int) : Prop := v ≤ F (nm p) ∧ (∀ a s, a < dm D → s < dn D → v ≤ wstV D F p a s) ∧ (v = F (nm p) ∨ ∃ a s, a < dm D ∧ s < dn D ∧ v = wstV D F p a s ∧ v < F (nm p))
theorem c_X11_leastStep {Z : Zt} {σ : Mem} {p : List Nat} {x1 : Int} (hZ : GZ Z) (hM : MI Z σ) (hl : p.length = dm (zD Z)) (h6 : ∀ t ∈ p, t < 6) (hF : ∀ t, t < 6 ^ dm (zD Z) → 0 ≤ σ 91 t ∧ σ 91 t ≤ 100000000) (e1 : x1 = nm p) : CM mX11_leastStep [.inr 73, .inl x1] σ (fun v σ1 => lsR (zD Z) (σ 91) p v ∧ Same [88] σ σ1) := by
  subst e1
  have h5 := hZ.m5
  have hn6 := hZ.n6
  have outer : ∀ (d a : Nat) (v : Int) (σ0 : Mem), a + d = dm (zD Z) → Same [88] σ σ0 → v ≤ σ 91 (nm p) → (∀ a' s, a' < a → s < dn (zD Z) → v ≤ wstV (zD Z) (σ 91) p a' s) → (v = σ 91 (nm p) ∨ ∃ a s, a < dm (zD Z) ∧ s < dn (zD Z) ∧ v = wstV (zD Z) (σ 91) p a s ∧ v < σ 91 (nm p)) → GO none mX11_leastStep 9 [some (.inr 73), some (.inl (nm p : Int)), some (.inl v), some (.inl (a : Int)), none, none] [] σ0 (fun v σ1 => lsR (zD Z) (σ 91) p v ∧ Same [88] σ σ1) := by
    intro d
    induction d with
    | zero =>
      intro a v σ0 hd hS h1 h2 h3
      have hm : σ0 73 5 = dm (zD Z) := by rw [hS 73 (by decide)]; exact hM.m
      exact rX11_leastStep_9 ⟨fun _ => ⟨⟨h1, fun a' s ha hs => h2 a' s (by omega) hs, h3⟩, hS⟩, fun h => by omega⟩
    | succ d ih =>
      intro a v σ0 hd hS h1 h2 h3
      have hm : σ0 73 5 = dm (zD Z) := by rw [hS 73 (by decide)]; exact hM.m
      have inner : ∀ (e s : Nat) (v : Int) (σ0 : Mem), s + e = dn (zD Z) → Same [88] σ σ0 → v ≤ σ 91 (nm p) → (∀ a' s, a' < a → s < dn (zD Z) → v ≤ wstV (zD Z) (σ 91) p a' s) → (∀ s', s' < s → v ≤ wstV (zD Z) (σ 91) p a s') → (v = σ 91 (nm p) ∨ ∃ a s, a < dm (zD Z) ∧ s < dn (zD Z) ∧ v = wstV (zD Z) (σ 91) p a s ∧ v < σ 91 (nm p)) → GO none mX11_leastStep 20 [some (.inr 73), some (.inl (nm p : Int)), some (.inl v), some (.inl (a : Int)), some (.inl (s : Int)), none] [] σ0 (fun v σ1 => lsR (zD Z) (σ 91) p v ∧ Same [88] σ σ1) := by
        intro e
        induction e with
        | zero =>
          intro s v σ0 he hS h1 h2 h4 h3
          have hn : σ0 73 2 = dn (zD Z) := by rw [hS 73 (by decide)]; exact hM.n
          refine rX11_leastStep_20 ⟨fun _ => ⟨by omega, ih (a + 1) v σ0 (by omega) hS h1 (fun a' s' ha hs => ?_) h3⟩, fun h => by omega⟩
          by_cases z : a' = a
          · rw [z]; exact h4 s' (by omega)
          · exact h2 a' s' (by omega) hs
        | succ e ihe =>
          intro s v σ0 he hS h1 h2 h4 h3
          have hn : σ0 73 2 = dn (zD Z) := by rw [hS 73 (by decide)]; exact hM.n
          have e91 : σ0 91 = σ 91 := hS 91 (by decide)
          refine rX11_leastStep_20 ⟨fun h => by omega, fun _ => CM.mono (fun w σ1 hq => ?_) (c_X11_withStep (p := p) (a := a) (s := s) hZ (hM.same (MSm.same hS (by decide)) (by decide)) hl h6 (by rw [e91]; exact hF) (by omega) (by omega) rfl rfl rfl)⟩
          rw [e91] at hq
          obtain ⟨rfl, hS1⟩ := hq
          refine ⟨fun h => ⟨by omega, ihe (s + 1) v σ1 (by omega) (hS.tr hS1) h1 h2 (fun s' hs => ?_) h3⟩, fun h => ⟨by omega, ihe (s + 1) _ σ1 (by omega) (hS.tr hS1) (by omega) (fun a' s' ha hs => ?_) (fun s' hs => ?_) (Or.inr ⟨a, s, by omega, by omega, rfl, by omega⟩)⟩⟩
          · by_cases z : s' = s
            · rw [z]; exact h
            · exact h4 s' (by omega)
          · have := h2 a' s' ha hs
            omega
          · by_cases z : s' = s
            · rw [z]; exact Int.le_refl _
            · have := h4 s' (by omega)
              omega
      refine rX11_leastStep_9 ⟨fun h => by omega, fun _ => inner (dn (zD Z)) 0 v σ0 (by omega) hS h1 h2 (fun s' h => by omega) h3⟩
  have hlt := nm_lt p h6
  rw [hl] at hlt
  have hp6 := pow6_le h5
  refine rX11_leastStep_0 ⟨by omega, by omega, ?_⟩
  rw [Int.toNat_natCast]
  exact outer (dm (zD Z)) 0 _ σ (by omega) Same.rf (Int.le_refl _) (fun a' s h => by omega) (Or.inl rfl)
