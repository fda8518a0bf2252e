/-! ===== the class's calls ===== -/
def uB (D : Dt) (x : Int) : Dt := (D.1, D.2.1, D.2.2.1, x, D.2.2.2.2)
def uL (D : Dt) (f : Nat → Int) : Dt := (D.1, D.2.1, D.2.2.1, D.2.2.2.1, f, D.2.2.2.2.2)
def uV (D : Dt) (f : Nat → Int) : Dt := (D.1, D.2.1, D.2.2.1, D.2.2.2.1, D.2.2.2.2.1, f, D.2.2.2.2.2.2)
def uS (D : Dt) : Dt := ((dn D, dm D + 1), D.2.1, D.2.2.1, D.2.2.2.1, D.2.2.2.2.1, fup (dV D) (dm D) 1, D.2.2.2.2.2.2)
def uW (D : Dt) (k : Nat) (a b e d : Nat → Int) : Dt := (D.1, D.2.1, D.2.2.1, D.2.2.2.1, D.2.2.2.2.1, D.2.2.2.2.2.1, k, a, b, e, d)
def zU (Z : Zt) (D : Dt) : Zt := (zK Z, zC Z, D, zh Z)
def zH (Z : Zt) (p : List Nat) : Zt := (zK Z, zC Z, zD Z, p)
theorem zH_good {Z : Zt} {p : List Nat} (h : GZ Z) (hl : p.length = dm (zD Z)) (hp : okP (dn (zD Z)) p) : GZ (zH Z p) := ⟨h.wf, hl, hp, h.kn, h.gc, h.wy⟩
theorem CI.hand {Z : Zt} {S : List Nat} {σ σ1 : Mem} {p : List Nat} (h : CI Z σ) (hS : Same S σ σ1) (hn : ∀ a ∈ S, a ∉ [1, 3, 5, 7, 9, 14, 16, 18, 20, 22, 24, 26, 51, 58, 60, 64, 66]) (h1 : hld σ1 69 p) (h2 : σ1 67 1 = dm (zD Z)) : CI (zH Z p) σ1 := by
  have e : ∀ a, a ∈ [1, 3, 5, 7, 9, 14, 16, 18, 20, 22, 24, 26, 51, 58, 60, 64, 66] → a ∉ S := fun a ha q => hn a q ha
  refine ⟨by rw [hS 3 (e 3 (by decide))]; exact h.k, by rw [hS 5 (e 5 (by decide))]; exact h.c, h.d.same hS (fun a ha q => hn a ha ?_), h1, h2, h.p.same hS (e 58 (by decide)) (e 60 (by decide)) (e 64 (by decide)), ?_⟩
  · exact (by decide : ∀ a, a ∈ [1, 7, 9, 14, 16, 18, 20, 22, 24, 26] → a ∈ [1, 3, 5, 7, 9, 14, 16, 18, 20, 22, 24, 26, 51, 58, 60, 64, 66]) a q
  · rw [hS 51 (e 51 (by decide))]
    rcases h.q with q | ⟨nn, q1, q2, q3⟩
    · exact Or.inl q
    · exact Or.inr ⟨nn, q1, q2, q3.same hS (e 51 (by decide)) (e 66 (by decide))⟩
theorem CI.upd {Z : Zt} {S : List Nat} {σ σ1 : Mem} {D : Dt} {p : List Nat} (h : CI Z σ) (hS : Same S σ σ1) (hn : ∀ a ∈ S, a ∉ [3, 5, 58, 60, 64]) (hD : CD D σ1) (h1 : hld σ1 69 p) (h2 : σ1 67 1 = dm D) (h0 : σ1 51 10 = 0) : CI (zK Z, zC Z, D, p) σ1 := by
  have e : ∀ a, a ∈ [3, 5, 58, 60, 64] → a ∉ S := fun a ha q => hn a q ha
  exact ⟨by rw [hS 3 (e 3 (by decide))]; exact h.k, by rw [hS 5 (e 5 (by decide))]; exact h.c, hD, h1, h2, h.p.same hS (e 58 (by decide)) (e 60 (by decide)) (e 64 (by decide)), Or.inl h0⟩
def seats67 : isSeats 67 := ⟨by decide, rfl, rfl, rfl, by decide, by decide, rfl, rfl, rfl⟩
def seats70 : isSeats 70 := ⟨by decide, rfl, rfl, rfl, by decide, by decide, rfl, rfl, rfl⟩
/-- a call that leaves all as it is -/
def nxA (Z : Zt) (A : Int → Prop) (v : Int) (Z' : Zt) : Prop := A v ∧ Z' = Z
theorem CQ.stay {Z : Zt} {σ σ1 : Mem} {A : Int → Prop} {v : Int} {S : List Nat} (hZ : GZ Z) (hC : CI Z σ) (hS : Same S σ σ1) (hn : ∀ a ∈ S, a ∉ [1, 3, 5, 7, 9, 14, 16, 18, 20, 22, 24, 26, 51, 58, 60, 64, 66, 67, 69]) (hc : ∀ a ∈ S, a ∈ cls) (hv : A v) : CQ σ (nxA Z A) v σ1 := ⟨Z, ⟨hv, rfl⟩, hZ, hC.same hS hn, hS.wk hc⟩
theorem CQ.stay0 {Z : Zt} {σ : Mem} {A : Int → Prop} {v : Int} (hZ : GZ Z) (hC : CI Z σ) (hv : A v) : CQ σ (nxA Z A) v σ := ⟨Z, ⟨hv, rfl⟩, hZ, hC, Same.rf⟩
def isY (y : Int) : Prop := 0 ≤ y ∧ y < 4
def isSl (Z : Zt) (s : Int) : Prop := 0 ≤ s ∧ s < dn (zD Z)
def isSh (Z : Zt) (s : Int) : Prop := 0 ≤ s ∧ s < dm (zD Z)
def aFar (Z : Zt) (a b v : Int) : Prop := (isSl Z a ∧ isSl Z b ∧ v = dW (zD Z) a.toNat b.toNat) ∨ (¬ (isSl Z a ∧ isSl Z b) ∧ v = -2)
def aOut (Z : Zt) (a v : Int) : Prop := (isSl Z a ∧ v = dO (zD Z) a.toNat) ∨ (¬ isSl Z a ∧ v = -2)
set_option maxRecDepth 100000 in
theorem rX10_far_0 {x1 x2 : Int}  {σ : Mem} {Q : Int → Mem → Prop} (h : (¬ (0 ≤ x1 ∧ x1 < σ 1 7) → Q (-2) σ) ∧ (0 ≤ x1 ∧ x1 < σ 1 7 → (0 ≤ x2 ∧ x2 < σ 1 7 → ((0 ≤ x1) ∧ (((x1 < 6) ∧ (((0 ≤ x2) ∧ (((x2 < 6) ∧ (Q (σ 7 (6 * x1 + x2).toNat) σ))))))))) ∧ (¬ (0 ≤ x2 ∧ x2 < σ 1 7) → Q (-2) σ))) : CM mX10_far [.inr 0, .inl x1, .inl x2] σ Q := by
  refine CM_of_GO (by decide +kernel) rfl (Nat.le_of_ble_eq_true rfl) ?_
  show GO none mX10_far 0 [some (.inr 0), some (.inl x1), some (.inl x2)] [] σ Q
  refine g_aload_n dX10_far_0 rfl rfl ?_
  refine g_getR (r' := 1) flX10_12 (by decide) rfl (by decide) rfl dX10_far_1 ?_
  refine g_iload_n dX10_far_4 rfl rfl ?_
  refine g_invVI (as := [.inl x1]) (rest := []) okX2_hasSlot mlX10_103 (by decide) rfl ⟨_, _, rfl⟩ rfl ⟨Nat.le_of_ble_eq_true rfl, Nat.le_of_ble_eq_true rfl⟩ (Nat.le_of_ble_eq_true rfl) rfl dX10_far_5 (c_X2_hasSlot) (Or.inr rfl) (fun v1 σ2 e3 => ?_)
  obtain ⟨e3a, e3b⟩ := e3; subst v1; subst σ2
  refine g_if_eq (tgt := 22) dX10_far_8 (by decide) (fun c4 => ?_) (fun c4 => ?_)
  · have h := h.1 (ite_no c4)
    refine g_bipush dX10_far_22 (by decide) (by decide) ?_
    exact g_ireturn rfl dX10_far_24 h
  · have h := h.2 (ite_yes c4)
    refine g_aload_n dX10_far_11 rfl rfl ?_
    refine g_getR (r' := 1) flX10_12 (by decide) rfl (by decide) rfl dX10_far_12 ?_
    refine g_iload_n dX10_far_15 rfl rfl ?_
    refine g_invVI (as := [.inl x2]) (rest := []) okX2_hasSlot mlX10_103 (by decide) rfl ⟨_, _, rfl⟩ rfl ⟨Nat.le_of_ble_eq_true rfl, Nat.le_of_ble_eq_true rfl⟩ (Nat.le_of_ble_eq_true rfl) rfl dX10_far_16 (c_X2_hasSlot) (Or.inr rfl) (fun v5 σ6 e7 => ?_)
    obtain ⟨e7a, e7b⟩ := e7; subst v5; subst σ6
    refine g_if_ne (tgt := 25) dX10_far_19 (by decide) (fun c8 => ?_) (fun c8 => ?_)
    · have h := h.1 (ite_yes c8)
      refine g_aload_n dX10_far_25 rfl rfl ?_
      refine g_getR (r' := 1) flX10_12 (by decide) rfl (by decide) rfl dX10_far_26 ?_
      refine g_iload_n dX10_far_29 rfl rfl ?_
      refine g_iload_n dX10_far_30 rfl rfl ?_
      obtain ⟨p9, h⟩ := h
      obtain ⟨p10, h⟩ := h
      obtain ⟨p11, h⟩ := h
      obtain ⟨p12, h⟩ := h
      refine g_invVI (as := [.inl x1, .inl x2]) (rest := []) okX2_wayBetween mlX10_107 (by decide) rfl ⟨_, _, rfl⟩ rfl ⟨Nat.le_of_ble_eq_true rfl, Nat.le_of_ble_eq_true rfl⟩ (Nat.le_of_ble_eq_true rfl) rfl dX10_far_31 (c_X2_wayBetween p9 p10 p11 p12) (Or.inl rfl) (fun v13 σ14 e15 => ?_)
      obtain ⟨e15a, e15b⟩ := e15; subst v13; subst σ14
      exact g_ireturn rfl dX10_far_34 h
    · have h := h.2 (ite_no c8)
      refine g_bipush dX10_far_22 (by decide) (by decide) ?_
      exact g_ireturn rfl dX10_far_24 h
set_option maxRecDepth 100000 in
theorem rX10_out_0 {x1 : Int}  {σ : Mem} {Q : Int → Mem → Prop} (h : (0 ≤ x1 ∧ x1 < σ 1 7 → ((0 ≤ x1) ∧ (((x1 < 6) ∧ (Q (σ 9 (x1).toNat) σ))))) ∧ (¬ (0 ≤ x1 ∧ x1 < σ 1 7) → Q (-2) σ)) : CM mX10_out [.inr 0, .inl x1] σ Q := by
  refine CM_of_GO (by decide +kernel) rfl (Nat.le_of_ble_eq_true rfl) ?_
  show GO none mX10_out 0 [some (.inr 0), some (.inl x1)] [] σ Q
  refine g_aload_n dX10_out_0 rfl rfl ?_
  refine g_getR (r' := 1) flX10_12 (by decide) rfl (by decide) rfl dX10_out_1 ?_
  refine g_iload_n dX10_out_4 rfl rfl ?_
  refine g_invVI (as := [.inl x1]) (rest := []) okX2_hasSlot mlX10_103 (by decide) rfl ⟨_, _, rfl⟩ rfl ⟨Nat.le_of_ble_eq_true rfl, Nat.le_of_ble_eq_true rfl⟩ (Nat.le_of_ble_eq_true rfl) rfl dX10_out_5 (c_X2_hasSlot) (Or.inr rfl) (fun v1 σ2 e3 => ?_)
  obtain ⟨e3a, e3b⟩ := e3; subst v1; subst σ2
  refine g_if_ne (tgt := 14) dX10_out_8 (by decide) (fun c4 => ?_) (fun c4 => ?_)
  · have h := h.1 (ite_yes c4)
    refine g_aload_n dX10_out_14 rfl rfl ?_
    refine g_getR (r' := 1) flX10_12 (by decide) rfl (by decide) rfl dX10_out_15 ?_
    refine g_iload_n dX10_out_18 rfl rfl ?_
    obtain ⟨p5, h⟩ := h
    obtain ⟨p6, h⟩ := h
    refine g_invVI (as := [.inl x1]) (rest := []) okX2_wayOut mlX10_110 (by decide) rfl ⟨_, _, rfl⟩ rfl ⟨Nat.le_of_ble_eq_true rfl, Nat.le_of_ble_eq_true rfl⟩ (Nat.le_of_ble_eq_true rfl) rfl dX10_out_19 (c_X2_wayOut p5 p6) (Or.inl rfl) (fun v7 σ8 e9 => ?_)
    obtain ⟨e9a, e9b⟩ := e9; subst v7; subst σ8
    exact g_ireturn rfl dX10_out_22 h
  · have h := h.2 (ite_no c4)
    refine g_bipush dX10_out_11 (by decide) (by decide) ?_
    exact g_ireturn rfl dX10_out_13 h
set_option maxRecDepth 100000 in
theorem rX10_bound_0 {x1 : Int}  {σ : Mem} {Q : Int → Mem → Prop} (h : (x1 < 0 → Q (-2) σ) ∧ (0 ≤ x1 → (x1 ≤ 41 → Q (σ 1 8) (mu (mu σ 51 10 0) 1 8 x1)) ∧ (41 < x1 → Q (-2) σ))) : CM mX10_bound [.inr 0, .inl x1] σ Q := by
  refine CM_of_GO (by decide +kernel) rfl (Nat.le_of_ble_eq_true rfl) ?_
  show GO none mX10_bound 0 [some (.inr 0), some (.inl x1)] [] σ Q
  refine g_iload_n dX10_bound_0 rfl rfl ?_
  refine g_if_lt (tgt := 10) dX10_bound_1 (by decide) (fun c1 => ?_) (fun c1 => ?_)
  · have h := h.1 c1
    refine g_bipush dX10_bound_10 (by decide) (by decide) ?_
    exact g_ireturn rfl dX10_bound_12 h
  · have h := h.2 c1
    refine g_iload_n dX10_bound_4 rfl rfl ?_
    refine g_bipush dX10_bound_5 (by decide) (by decide) ?_
    refine g_icmp_le (tgt := 13) dX10_bound_7 (by decide) (fun c2 => ?_) (fun c2 => ?_)
    · have h := h.1 c2
      refine g_aload_n dX10_bound_13 rfl rfl ?_
      refine g_getR (r' := 51) flX10_67 (by decide) rfl (by decide) rfl dX10_bound_14 ?_
      refine g_invVV (as := []) (rest := []) okX6_forget mlX10_93 (by decide) rfl ⟨_, _, rfl⟩ rfl ⟨Nat.le_of_ble_eq_true rfl, Nat.le_of_ble_eq_true rfl⟩ (Nat.le_of_ble_eq_true rfl) rfl dX10_bound_17 (c_X6_forget) rfl (fun σ4 e5 => ?_)
      subst σ4
      refine g_aload_n dX10_bound_20 rfl rfl ?_
      refine g_getR (r' := 1) flX10_12 (by decide) rfl (by decide) rfl dX10_bound_21 ?_
      refine g_iload_n dX10_bound_24 rfl rfl ?_
      refine g_invVI (as := [.inl x1]) (rest := []) okX2_changeBound mlX10_113 (by decide) rfl ⟨_, _, rfl⟩ rfl ⟨Nat.le_of_ble_eq_true rfl, Nat.le_of_ble_eq_true rfl⟩ (Nat.le_of_ble_eq_true rfl) rfl dX10_bound_25 (c_X2_changeBound) (Or.inl rfl) (fun v6 σ7 e8 => ?_)
      obtain ⟨e8a, e8b⟩ := e8; subst v6; subst σ7
      refine g_top (w := (σ 1 8)) rfl ?_
      exact g_ireturn rfl dX10_bound_28 h
    · have h := h.2 c2
      refine g_bipush dX10_bound_10 (by decide) (by decide) ?_
      exact g_ireturn rfl dX10_bound_12 h
set_option maxRecDepth 100000 in
theorem rX10_shop_0  {σ : Mem} {Q : Int → Mem → Prop} (h : ((σ 14 6) < 5 → ((σ 14 6) < (σ 1 7) → CM mX8_addShop [.inr 67, .inl (σ 1 7)] (mu σ 51 10 0) (fun _ σ19 => ((0 ≤ (σ19 14 6)) ∧ ((((σ19 14 6) < 5) ∧ (Q (σ19 14 6) (mu (mu σ19 18 ((σ19 14 6)).toNat 1) 14 6 ((σ19 14 6) + 1)))))))) ∧ ((σ 1 7) ≤ (σ 14 6) → Q (-3) σ)) ∧ (5 ≤ (σ 14 6) → Q (-4) σ)) : CM mX10_shop [.inr 0] σ Q := by
  refine CM_of_GO (by decide +kernel) rfl (Nat.le_of_ble_eq_true rfl) ?_
  show GO none mX10_shop 0 [some (.inr 0)] [] σ Q
  refine g_aload_n dX10_shop_0 rfl rfl ?_
  refine g_getR (r' := 14) flX10_19 (by decide) rfl (by decide) rfl dX10_shop_1 ?_
  refine g_invVI (as := []) (rest := []) okX9_shops mlX10_116 (by decide) rfl ⟨_, _, rfl⟩ rfl ⟨Nat.le_of_ble_eq_true rfl, Nat.le_of_ble_eq_true rfl⟩ (Nat.le_of_ble_eq_true rfl) rfl dX10_shop_4 (c_X9_shops) (Or.inl rfl) (fun v1 σ2 e3 => ?_)
  obtain ⟨e3a, e3b⟩ := e3; subst v1; subst σ2
  refine g_iconst dX10_shop_7 (by decide) ?_
  refine g_icmp_lt (tgt := 14) dX10_shop_8 (by decide) (fun c4 => ?_) (fun c4 => ?_)
  · have h := h.1 c4
    refine g_aload_n dX10_shop_14 rfl rfl ?_
    refine g_getR (r' := 1) flX10_12 (by decide) rfl (by decide) rfl dX10_shop_15 ?_
    refine g_invVI (as := []) (rest := []) okX2_slots mlX10_96 (by decide) rfl ⟨_, _, rfl⟩ rfl ⟨Nat.le_of_ble_eq_true rfl, Nat.le_of_ble_eq_true rfl⟩ (Nat.le_of_ble_eq_true rfl) rfl dX10_shop_18 (c_X2_slots) (Or.inl rfl) (fun v5 σ6 e7 => ?_)
    obtain ⟨e7a, e7b⟩ := e7; subst v5; subst σ6
    refine g_aload_n dX10_shop_21 rfl rfl ?_
    refine g_getR (r' := 14) flX10_19 (by decide) rfl (by decide) rfl dX10_shop_22 ?_
    refine g_invVI (as := []) (rest := [.inl (σ 1 7)]) okX9_shops mlX10_116 (by decide) rfl ⟨_, _, rfl⟩ rfl ⟨Nat.le_of_ble_eq_true rfl, Nat.le_of_ble_eq_true rfl⟩ (Nat.le_of_ble_eq_true rfl) rfl dX10_shop_25 (c_X9_shops) (Or.inl rfl) (fun v8 σ9 e10 => ?_)
    obtain ⟨e10a, e10b⟩ := e10; subst v8; subst σ9
    refine g_icmp_gt (tgt := 34) dX10_shop_28 (by decide) (fun c11 => ?_) (fun c11 => ?_)
    · have h := h.1 c11
      refine g_aload_n dX10_shop_34 rfl rfl ?_
      refine g_getR (r' := 51) flX10_67 (by decide) rfl (by decide) rfl dX10_shop_35 ?_
      refine g_invVV (as := []) (rest := []) okX6_forget mlX10_93 (by decide) rfl ⟨_, _, rfl⟩ rfl ⟨Nat.le_of_ble_eq_true rfl, Nat.le_of_ble_eq_true rfl⟩ (Nat.le_of_ble_eq_true rfl) rfl dX10_shop_38 (c_X6_forget) rfl (fun σ13 e14 => ?_)
      subst σ13
      refine g_aload_n dX10_shop_41 rfl rfl ?_
      refine g_getR (r' := 67) flX10_74 (by decide) rfl (by decide) rfl dX10_shop_42 ?_
      refine g_aload_n dX10_shop_45 rfl rfl ?_
      refine g_getR (r' := 1) flX10_12 (by decide) rfl (by decide) rfl dX10_shop_46 ?_
      refine g_invVI (as := []) (rest := [.inr 67]) okX2_slots mlX10_96 (by decide) rfl ⟨_, _, rfl⟩ rfl ⟨Nat.le_of_ble_eq_true rfl, Nat.le_of_ble_eq_true rfl⟩ (Nat.le_of_ble_eq_true rfl) rfl dX10_shop_49 (c_X2_slots) (Or.inl rfl) (fun v15 σ16 e17 => ?_)
      obtain ⟨e17a, e17b⟩ := e17; subst v15; subst σ16
      refine g_top (w := (σ 1 7)) rfl ?_
      refine g_invVV (as := [.inl (σ 1 7)]) (rest := []) okX8_addShop mlX10_119 (by decide) rfl ⟨_, _, rfl⟩ rfl ⟨Nat.le_of_ble_eq_true rfl, Nat.le_of_ble_eq_true rfl⟩ (Nat.le_of_ble_eq_true rfl) rfl dX10_shop_52 h rfl (fun σ19 e20 => ?_)
      have h := e20
      refine g_aload_n dX10_shop_55 rfl rfl ?_
      refine g_getR (r' := 14) flX10_19 (by decide) rfl (by decide) rfl dX10_shop_56 ?_
      obtain ⟨p21, h⟩ := h
      obtain ⟨p22, h⟩ := h
      refine g_invVI (as := []) (rest := []) okX9_addShop mlX10_123 (by decide) rfl ⟨_, _, rfl⟩ rfl ⟨Nat.le_of_ble_eq_true rfl, Nat.le_of_ble_eq_true rfl⟩ (Nat.le_of_ble_eq_true rfl) rfl dX10_shop_59 (c_X9_addShop p21 p22) (Or.inl rfl) (fun v23 σ24 e25 => ?_)
      obtain ⟨e25a, e25b⟩ := e25; subst v23; subst σ24
      exact g_ireturn rfl dX10_shop_62 h
    · have h := h.2 c11
      refine g_bipush dX10_shop_31 (by decide) (by decide) ?_
      exact g_ireturn rfl dX10_shop_33 h
  · have h := h.2 c4
    refine g_bipush dX10_shop_11 (by decide) (by decide) ?_
    exact g_ireturn rfl dX10_shop_13 h
set_option maxRecDepth 100000 in
theorem rX10_load_0 {x1 x2 x3 x4 : Int}  {σ : Mem} {Q : Int → Mem → Prop} (h : (¬ (0 ≤ x1 ∧ x1 < 4) → Q (-2) σ) ∧ (0 ≤ x1 ∧ x1 < 4 → (¬ ((0 ≤ x2 ∧ x2 < σ 14 6) ∧ (0 ≤ x3 ∧ x3 < σ 14 6) ∧ x2 ≠ x3) → Q (-2) σ) ∧ ((0 ≤ x2 ∧ x2 < σ 14 6) ∧ (0 ≤ x3 ∧ x3 < σ 14 6) ∧ x2 ≠ x3 → (x4 < 0 → Q (-2) σ) ∧ (0 ≤ x4 → (x4 ≤ 99 → ((0 ≤ x1) ∧ (((x1 < 4) ∧ (((0 ≤ x2) ∧ (((x2 < 5) ∧ (((0 ≤ x3) ∧ (((x3 < 5) ∧ (Q (σ 16 ((25 * x1 + 5 * x2 + x3)).toNat) (mu (mu σ 51 10 0) 16 ((25 * x1 + 5 * x2 + x3)).toNat x4)))))))))))))) ∧ (99 < x4 → Q (-2) σ))))) : CM mX10_load [.inr 0, .inl x1, .inl x2, .inl x3, .inl x4] σ Q := by
  refine CM_of_GO (by decide +kernel) rfl (Nat.le_of_ble_eq_true rfl) ?_
  show GO none mX10_load 0 [some (.inr 0), some (.inl x1), some (.inl x2), some (.inl x3), some (.inl x4)] [] σ Q
  refine g_iload_n dX10_load_0 rfl rfl ?_
  refine g_invSI (as := [.inl x1]) (rest := []) okX10_isYear rfl mlX10_125 rfl ⟨Nat.le_of_ble_eq_true rfl, Nat.le_of_ble_eq_true rfl⟩ (Nat.le_of_ble_eq_true rfl) rfl dX10_load_1 (c_X10_isYear) (Or.inr rfl) (fun v1 σ2 e3 => ?_)
  obtain ⟨e3a, e3b⟩ := e3; subst v1; subst σ2
  refine g_if_eq (tgt := 31) dX10_load_4 (by decide) (fun c4 => ?_) (fun c4 => ?_)
  · have h := h.1 (ite_no c4)
    refine g_bipush dX10_load_31 (by decide) (by decide) ?_
    exact g_ireturn rfl dX10_load_33 h
  · have h := h.2 (ite_yes c4)
    refine g_aload_n dX10_load_7 rfl rfl ?_
    refine g_getR (r' := 14) flX10_19 (by decide) rfl (by decide) rfl dX10_load_8 ?_
    refine g_iload_n dX10_load_11 rfl rfl ?_
    refine g_iload_n dX10_load_12 rfl rfl ?_
    refine g_invVI (as := [.inl x2, .inl x3]) (rest := []) okX9_areTwo mlX10_128 (by decide) rfl ⟨_, _, rfl⟩ rfl ⟨Nat.le_of_ble_eq_true rfl, Nat.le_of_ble_eq_true rfl⟩ (Nat.le_of_ble_eq_true rfl) rfl dX10_load_13 (c_X9_areTwo) (Or.inr rfl) (fun v5 σ6 e7 => ?_)
    obtain ⟨e7a, e7b⟩ := e7; subst v5; subst σ6
    refine g_if_eq (tgt := 31) dX10_load_16 (by decide) (fun c8 => ?_) (fun c8 => ?_)
    · have h := h.1 (ite_no c8)
      refine g_bipush dX10_load_31 (by decide) (by decide) ?_
      exact g_ireturn rfl dX10_load_33 h
    · have h := h.2 (ite_yes c8)
      refine g_iload dX10_load_19 rfl ?_
      refine g_if_lt (tgt := 31) dX10_load_21 (by decide) (fun c9 => ?_) (fun c9 => ?_)
      · have h := h.1 c9
        refine g_bipush dX10_load_31 (by decide) (by decide) ?_
        exact g_ireturn rfl dX10_load_33 h
      · have h := h.2 c9
        refine g_iload dX10_load_24 rfl ?_
        refine g_bipush dX10_load_26 (by decide) (by decide) ?_
        refine g_icmp_le (tgt := 34) dX10_load_28 (by decide) (fun c10 => ?_) (fun c10 => ?_)
        · have h := h.1 c10
          refine g_aload_n dX10_load_34 rfl rfl ?_
          refine g_getR (r' := 51) flX10_67 (by decide) rfl (by decide) rfl dX10_load_35 ?_
          refine g_invVV (as := []) (rest := []) okX6_forget mlX10_93 (by decide) rfl ⟨_, _, rfl⟩ rfl ⟨Nat.le_of_ble_eq_true rfl, Nat.le_of_ble_eq_true rfl⟩ (Nat.le_of_ble_eq_true rfl) rfl dX10_load_38 (c_X6_forget) rfl (fun σ12 e13 => ?_)
          subst σ12
          refine g_aload_n dX10_load_41 rfl rfl ?_
          refine g_getR (r' := 14) flX10_19 (by decide) rfl (by decide) rfl dX10_load_42 ?_
          refine g_iload_n dX10_load_45 rfl rfl ?_
          refine g_iload_n dX10_load_46 rfl rfl ?_
          refine g_iload_n dX10_load_47 rfl rfl ?_
          refine g_iload dX10_load_48 rfl ?_
          obtain ⟨p14, h⟩ := h
          obtain ⟨p15, h⟩ := h
          obtain ⟨p16, h⟩ := h
          obtain ⟨p17, h⟩ := h
          obtain ⟨p18, h⟩ := h
          obtain ⟨p19, h⟩ := h
          refine g_invVI (as := [.inl x1, .inl x2, .inl x3, .inl x4]) (rest := []) okX9_changeLoad mlX10_132 (by decide) rfl ⟨_, _, rfl⟩ rfl ⟨Nat.le_of_ble_eq_true rfl, Nat.le_of_ble_eq_true rfl⟩ (Nat.le_of_ble_eq_true rfl) rfl dX10_load_50 (c_X9_changeLoad p14 p15 p16 p17 p18 p19) (Or.inl rfl) (fun v20 σ21 e22 => ?_)
          obtain ⟨e22a, e22b⟩ := e22; subst v20; subst σ21
          refine g_top (w := (σ 16 ((25 * x1 + 5 * x2 + x3)).toNat)) rfl ?_
          exact g_ireturn rfl dX10_load_53 h
        · have h := h.2 c10
          refine g_bipush dX10_load_31 (by decide) (by decide) ?_
          exact g_ireturn rfl dX10_load_33 h
set_option maxRecDepth 100000 in
theorem rX10_weight_0 {x1 x2 : Int}  {σ : Mem} {Q : Int → Mem → Prop} (h : (¬ (0 ≤ x1 ∧ x1 < σ 14 6) → Q (-2) σ) ∧ (0 ≤ x1 ∧ x1 < σ 14 6 → (x2 < 1 → Q (-2) σ) ∧ (1 ≤ x2 → (x2 ≤ 50 → ((0 ≤ x1) ∧ (((x1 < 5) ∧ (Q (σ 18 (x1).toNat) (mu (mu σ 51 10 0) 18 (x1).toNat x2)))))) ∧ (50 < x2 → Q (-2) σ)))) : CM mX10_weight [.inr 0, .inl x1, .inl x2] σ Q := by
  refine CM_of_GO (by decide +kernel) rfl (Nat.le_of_ble_eq_true rfl) ?_
  show GO none mX10_weight 0 [some (.inr 0), some (.inl x1), some (.inl x2)] [] σ Q
  refine g_aload_n dX10_weight_0 rfl rfl ?_
  refine g_getR (r' := 14) flX10_19 (by decide) rfl (by decide) rfl dX10_weight_1 ?_
  refine g_iload_n dX10_weight_4 rfl rfl ?_
  refine g_invVI (as := [.inl x1]) (rest := []) okX9_hasShop mlX10_136 (by decide) rfl ⟨_, _, rfl⟩ rfl ⟨Nat.le_of_ble_eq_true rfl, Nat.le_of_ble_eq_true rfl⟩ (Nat.le_of_ble_eq_true rfl) rfl dX10_weight_5 (c_X9_hasShop) (Or.inr rfl) (fun v1 σ2 e3 => ?_)
  obtain ⟨e3a, e3b⟩ := e3; subst v1; subst σ2
  refine g_if_eq (tgt := 22) dX10_weight_8 (by decide) (fun c4 => ?_) (fun c4 => ?_)
  · have h := h.1 (ite_no c4)
    refine g_bipush dX10_weight_22 (by decide) (by decide) ?_
    exact g_ireturn rfl dX10_weight_24 h
  · have h := h.2 (ite_yes c4)
    refine g_iload_n dX10_weight_11 rfl rfl ?_
    refine g_iconst dX10_weight_12 (by decide) ?_
    refine g_icmp_lt (tgt := 22) dX10_weight_13 (by decide) (fun c5 => ?_) (fun c5 => ?_)
    · have h := h.1 c5
      refine g_bipush dX10_weight_22 (by decide) (by decide) ?_
      exact g_ireturn rfl dX10_weight_24 h
    · have h := h.2 c5
      refine g_iload_n dX10_weight_16 rfl rfl ?_
      refine g_bipush dX10_weight_17 (by decide) (by decide) ?_
      refine g_icmp_le (tgt := 25) dX10_weight_19 (by decide) (fun c6 => ?_) (fun c6 => ?_)
      · have h := h.1 c6
        refine g_aload_n dX10_weight_25 rfl rfl ?_
        refine g_getR (r' := 51) flX10_67 (by decide) rfl (by decide) rfl dX10_weight_26 ?_
        refine g_invVV (as := []) (rest := []) okX6_forget mlX10_93 (by decide) rfl ⟨_, _, rfl⟩ rfl ⟨Nat.le_of_ble_eq_true rfl, Nat.le_of_ble_eq_true rfl⟩ (Nat.le_of_ble_eq_true rfl) rfl dX10_weight_29 (c_X6_forget) rfl (fun σ8 e9 => ?_)
        subst σ8
        refine g_aload_n dX10_weight_32 rfl rfl ?_
        refine g_getR (r' := 14) flX10_19 (by decide) rfl (by decide) rfl dX10_weight_33 ?_
        refine g_iload_n dX10_weight_36 rfl rfl ?_
        refine g_iload_n dX10_weight_37 rfl rfl ?_
        obtain ⟨p10, h⟩ := h
        obtain ⟨p11, h⟩ := h
        refine g_invVI (as := [.inl x1, .inl x2]) (rest := []) okX9_changeWeight mlX10_139 (by decide) rfl ⟨_, _, rfl⟩ rfl ⟨Nat.le_of_ble_eq_true rfl, Nat.le_of_ble_eq_true rfl⟩ (Nat.le_of_ble_eq_true rfl) rfl dX10_weight_38 (c_X9_changeWeight p10 p11) (Or.inl rfl) (fun v12 σ13 e14 => ?_)
        obtain ⟨e14a, e14b⟩ := e14; subst v12; subst σ13
        refine g_top (w := (σ 18 (x1).toNat)) rfl ?_
        exact g_ireturn rfl dX10_weight_41 h
      · have h := h.2 c6
        refine g_bipush dX10_weight_22 (by decide) (by decide) ?_
        exact g_ireturn rfl dX10_weight_24 h
set_option maxRecDepth 100000 in
theorem rX10_wish_0 {x1 x2 x3 x4 : Int}  {σ : Mem} {Q : Int → Mem → Prop} (h : (¬ ((0 ≤ x1 ∧ x1 < σ 14 6) ∧ (0 ≤ x2 ∧ x2 < σ 14 6) ∧ x1 ≠ x2) → Q (-2) σ) ∧ ((0 ≤ x1 ∧ x1 < σ 14 6) ∧ (0 ≤ x2 ∧ x2 < σ 14 6) ∧ x1 ≠ x2 → (x4 < 0 → Q (-2) σ) ∧ (0 ≤ x4 → (x4 ≤ 20 → ((σ 14 7) < 6 → ((0 ≤ (σ 14 7)) ∧ (((x3 = 0 ∨ x3 = 1) ∧ (Q (σ 14 7) (mu (mu (mu (mu (mu (mu σ 51 10 0) 20 ((σ 14 7)).toNat x1) 22 ((σ 14 7)).toNat x2) 24 ((σ 14 7)).toNat x3) 26 ((σ 14 7)).toNat x4) 14 7 ((σ 14 7) + 1))))))) ∧ (6 ≤ (σ 14 7) → Q (-4) σ)) ∧ (20 < x4 → Q (-2) σ)))) : CM mX10_wish [.inr 0, .inl x1, .inl x2, .inl x3, .inl x4] σ Q := by
  refine CM_of_GO (by decide +kernel) rfl (Nat.le_of_ble_eq_true rfl) ?_
  show GO none mX10_wish 0 [some (.inr 0), some (.inl x1), some (.inl x2), some (.inl x3), some (.inl x4)] [] σ Q
  refine g_aload_n dX10_wish_0 rfl rfl ?_
  refine g_getR (r' := 14) flX10_19 (by decide) rfl (by decide) rfl dX10_wish_1 ?_
  refine g_iload_n dX10_wish_4 rfl rfl ?_
  refine g_iload_n dX10_wish_5 rfl rfl ?_
  refine g_invVI (as := [.inl x1, .inl x2]) (rest := []) okX9_areTwo mlX10_128 (by decide) rfl ⟨_, _, rfl⟩ rfl ⟨Nat.le_of_ble_eq_true rfl, Nat.le_of_ble_eq_true rfl⟩ (Nat.le_of_ble_eq_true rfl) rfl dX10_wish_6 (c_X9_areTwo) (Or.inr rfl) (fun v1 σ2 e3 => ?_)
  obtain ⟨e3a, e3b⟩ := e3; subst v1; subst σ2
  refine g_if_eq (tgt := 24) dX10_wish_9 (by decide) (fun c4 => ?_) (fun c4 => ?_)
  · have h := h.1 (ite_no c4)
    refine g_bipush dX10_wish_24 (by decide) (by decide) ?_
    exact g_ireturn rfl dX10_wish_26 h
  · have h := h.2 (ite_yes c4)
    refine g_iload dX10_wish_12 rfl ?_
    refine g_if_lt (tgt := 24) dX10_wish_14 (by decide) (fun c5 => ?_) (fun c5 => ?_)
    · have h := h.1 c5
      refine g_bipush dX10_wish_24 (by decide) (by decide) ?_
      exact g_ireturn rfl dX10_wish_26 h
    · have h := h.2 c5
      refine g_iload dX10_wish_17 rfl ?_
      refine g_bipush dX10_wish_19 (by decide) (by decide) ?_
      refine g_icmp_le (tgt := 27) dX10_wish_21 (by decide) (fun c6 => ?_) (fun c6 => ?_)
      · have h := h.1 c6
        refine g_aload_n dX10_wish_27 rfl rfl ?_
        refine g_getR (r' := 14) flX10_19 (by decide) rfl (by decide) rfl dX10_wish_28 ?_
        refine g_invVI (as := []) (rest := []) okX9_wishes mlX10_142 (by decide) rfl ⟨_, _, rfl⟩ rfl ⟨Nat.le_of_ble_eq_true rfl, Nat.le_of_ble_eq_true rfl⟩ (Nat.le_of_ble_eq_true rfl) rfl dX10_wish_31 (c_X9_wishes) (Or.inl rfl) (fun v7 σ8 e9 => ?_)
        obtain ⟨e9a, e9b⟩ := e9; subst v7; subst σ8
        refine g_bipush dX10_wish_34 (by decide) (by decide) ?_
        refine g_icmp_lt (tgt := 42) dX10_wish_36 (by decide) (fun c10 => ?_) (fun c10 => ?_)
        · have h := h.1 c10
          refine g_aload_n dX10_wish_42 rfl rfl ?_
          refine g_getR (r' := 51) flX10_67 (by decide) rfl (by decide) rfl dX10_wish_43 ?_
          refine g_invVV (as := []) (rest := []) okX6_forget mlX10_93 (by decide) rfl ⟨_, _, rfl⟩ rfl ⟨Nat.le_of_ble_eq_true rfl, Nat.le_of_ble_eq_true rfl⟩ (Nat.le_of_ble_eq_true rfl) rfl dX10_wish_46 (c_X6_forget) rfl (fun σ12 e13 => ?_)
          subst σ12
          refine g_aload_n dX10_wish_49 rfl rfl ?_
          refine g_getR (r' := 14) flX10_19 (by decide) rfl (by decide) rfl dX10_wish_50 ?_
          refine g_iload_n dX10_wish_53 rfl rfl ?_
          refine g_iload_n dX10_wish_54 rfl rfl ?_
          refine g_iload_n dX10_wish_55 rfl rfl ?_
          refine g_iload dX10_wish_56 rfl ?_
          obtain ⟨p14, h⟩ := h
          obtain ⟨p15, h⟩ := h
          refine g_invVI (as := [.inl x1, .inl x2, .inl x3, .inl x4]) (rest := []) okX9_addWish mlX10_145 (by decide) rfl ⟨_, _, rfl⟩ rfl ⟨Nat.le_of_ble_eq_true rfl, Nat.le_of_ble_eq_true rfl⟩ (Nat.le_of_ble_eq_true rfl) rfl dX10_wish_58 (c_X9_addWish p14 c10 p15) (Or.inl rfl) (fun v16 σ17 e18 => ?_)
          obtain ⟨e18a, e18b⟩ := e18; subst v16; subst σ17
          refine g_top (w := (σ 14 7)) rfl ?_
          exact g_ireturn rfl dX10_wish_61 h
        · have h := h.2 c10
          refine g_bipush dX10_wish_39 (by decide) (by decide) ?_
          exact g_ireturn rfl dX10_wish_41 h
      · have h := h.2 c6
        refine g_bipush dX10_wish_24 (by decide) (by decide) ?_
        exact g_ireturn rfl dX10_wish_26 h
set_option maxRecDepth 100000 in
theorem rX10_unwish_0 {x1 : Int}  {σ : Mem} {Q : Int → Mem → Prop} (h : (x1 < 0 → Q (-2) σ) ∧ (0 ≤ x1 → (x1 < (σ 14 7) → CM mX9_dropWish [.inr 14, .inl x1] (mu σ 51 10 0) (fun _ σ10 => Q 1 σ10)) ∧ ((σ 14 7) ≤ x1 → Q (-2) σ))) : CM mX10_unwish [.inr 0, .inl x1] σ Q := by
  refine CM_of_GO (by decide +kernel) rfl (Nat.le_of_ble_eq_true rfl) ?_
  show GO none mX10_unwish 0 [some (.inr 0), some (.inl x1)] [] σ Q
  refine g_iload_n dX10_unwish_0 rfl rfl ?_
  refine g_if_lt (tgt := 15) dX10_unwish_1 (by decide) (fun c1 => ?_) (fun c1 => ?_)
  · have h := h.1 c1
    refine g_bipush dX10_unwish_15 (by decide) (by decide) ?_
    exact g_ireturn rfl dX10_unwish_17 h
  · have h := h.2 c1
    refine g_iload_n dX10_unwish_4 rfl rfl ?_
    refine g_aload_n dX10_unwish_5 rfl rfl ?_
    refine g_getR (r' := 14) flX10_19 (by decide) rfl (by decide) rfl dX10_unwish_6 ?_
    refine g_invVI (as := []) (rest := [.inl x1]) okX9_wishes mlX10_142 (by decide) rfl ⟨_, _, rfl⟩ rfl ⟨Nat.le_of_ble_eq_true rfl, Nat.le_of_ble_eq_true rfl⟩ (Nat.le_of_ble_eq_true rfl) rfl dX10_unwish_9 (c_X9_wishes) (Or.inl rfl) (fun v2 σ3 e4 => ?_)
    obtain ⟨e4a, e4b⟩ := e4; subst v2; subst σ3
    refine g_icmp_lt (tgt := 18) dX10_unwish_12 (by decide) (fun c5 => ?_) (fun c5 => ?_)
    · have h := h.1 c5
      refine g_aload_n dX10_unwish_18 rfl rfl ?_
      refine g_getR (r' := 51) flX10_67 (by decide) rfl (by decide) rfl dX10_unwish_19 ?_
      refine g_invVV (as := []) (rest := []) okX6_forget mlX10_93 (by decide) rfl ⟨_, _, rfl⟩ rfl ⟨Nat.le_of_ble_eq_true rfl, Nat.le_of_ble_eq_true rfl⟩ (Nat.le_of_ble_eq_true rfl) rfl dX10_unwish_22 (c_X6_forget) rfl (fun σ7 e8 => ?_)
      subst σ7
      refine g_aload_n dX10_unwish_25 rfl rfl ?_
      refine g_getR (r' := 14) flX10_19 (by decide) rfl (by decide) rfl dX10_unwish_26 ?_
      refine g_iload_n dX10_unwish_29 rfl rfl ?_
      refine g_invVV (as := [.inl x1]) (rest := []) okX9_dropWish mlX10_149 (by decide) rfl ⟨_, _, rfl⟩ rfl ⟨Nat.le_of_ble_eq_true rfl, Nat.le_of_ble_eq_true rfl⟩ (Nat.le_of_ble_eq_true rfl) rfl dX10_unwish_30 h rfl (fun σ10 e11 => ?_)
      have h := e11
      refine g_iconst dX10_unwish_33 (by decide) ?_
      exact g_ireturn rfl dX10_unwish_34 h
    · have h := h.2 c5
      refine g_bipush dX10_unwish_15 (by decide) (by decide) ?_
      exact g_ireturn rfl dX10_unwish_17 h
theorem c_X10_far {Z : Zt} {σ : Mem} {a b : Int} (hZ : GZ Z) (hC : CI Z σ) : CM mX10_far [.inr 0, .inl a, .inl b] σ (CQ σ (nxA Z (aFar Z a b))) := by
  have hd := hC.d
  have hn6 := hZ.n6
  refine rX10_far_0 ⟨fun h => CQ.stay0 hZ hC ?_, fun h => ⟨fun h2 => ⟨h.1, by have := hd.1; omega, h2.1, by have := hd.1; omega, CQ.stay0 hZ hC ?_⟩, fun h2 => CQ.stay0 hZ hC ?_⟩⟩
  · rw [hd.1] at h
    exact Or.inr ⟨fun q => h q.1, rfl⟩
  · rw [hd.1] at h h2
    refine Or.inl ⟨h, h2, ?_⟩
    rw [show (6 * a + b).toNat = 6 * a.toNat + b.toNat by omega]
    exact hd.2.2.1 _ _ (by omega) (by omega)
  · rw [hd.1] at h2
    exact Or.inr ⟨fun q => h2 q.2, rfl⟩
theorem c_X10_out {Z : Zt} {σ : Mem} {a : Int} (hZ : GZ Z) (hC : CI Z σ) : CM mX10_out [.inr 0, .inl a] σ (CQ σ (nxA Z (aOut Z a))) := by
  have hd := hC.d
  have hn6 := hZ.n6
  refine rX10_out_0 ⟨fun h => ⟨h.1, by have := hd.1; omega, CQ.stay0 hZ hC ?_⟩, fun h => CQ.stay0 hZ hC ?_⟩
  · rw [hd.1] at h
    exact Or.inl ⟨h, hd.2.2.2.1 _ (by omega)⟩
  · rw [hd.1] at h
    exact Or.inr ⟨h, rfl⟩
def nxBound (Z : Zt) (x v : Int) (Z' : Zt) : Prop := (0 ≤ x ∧ x ≤ 41 ∧ v = dB (zD Z) ∧ Z' = zU Z (uB (zD Z) x)) ∨ (¬ (0 ≤ x ∧ x ≤ 41) ∧ v = -2 ∧ Z' = Z)
theorem c_X10_bound {Z : Zt} {σ : Mem} {x : Int} (hZ : GZ Z) (hC : CI Z σ) : CM mX10_bound [.inr 0, .inl x] σ (CQ σ (nxBound Z x)) := by
  obtain ⟨d1, d2, d3, d4, d5, d6, d7, d8, d9, d10, d11, d12⟩ := hC.d
  obtain ⟨w1, w2, w3, w4, w5, w6, w7, w8, w9, w10, w11, w12⟩ := hZ.wf
  refine rX10_bound_0 ⟨fun h => ⟨Z, Or.inr ⟨by omega, rfl, rfl⟩, hZ, hC, Same.rf⟩, fun h => ⟨fun h2 => ⟨zU Z (uB (zD Z) x), Or.inl ⟨h, h2, d5, rfl⟩, ?_, ?_, (Same.mu (by decide)).tr (Same.mu (by decide))⟩, fun h2 => ⟨Z, Or.inr ⟨by omega, rfl, rfl⟩, hZ, hC, Same.rf⟩⟩⟩
  · exact ⟨⟨w1, w2, w3, w4, w5, w6, ⟨h, h2⟩, w8, w9, w10, w11, w12⟩, hZ.len, hZ.ok, hZ.kn, hZ.gc, hZ.wy⟩
  · refine hC.upd (S := [1, 51]) ((Same.mu (by decide)).tr (Same.mu (by decide))) (by decide) ?_ ?_ ?_ ?_
    · refine ⟨?_, ?_, fun a b ha hb => ?_, fun a ha => ?_, ?_, ?_, ?_, ?_, ?_, ?_, ?_, ?_⟩ <;> first
        | rw [mu_nef (by decide), mu_nef (by decide)]
        | (rw [mu_atn (by decide), mu_nef (by decide)])
        | (rw [mu_at, if_pos rfl])
      all_goals first
        | exact d1
        | exact d2
        | exact d3 a b ha hb
        | exact d4 a ha
        | rfl
        | exact d6
        | exact d7
        | exact d8
        | exact d9
        | exact d10
        | exact d11
        | exact d12
    · exact hC.h.cong (by rw [mu_nef (by decide), mu_nef (by decide)])
    · rw [mu_nef (by decide), mu_nef (by decide)]; exact hC.m
    · rw [mu_nef (by decide), mu_at, if_pos rfl]
def nxShop (Z : Zt) (v : Int) (Z' : Zt) : Prop := (dm (zD Z) = 5 ∧ v = -4 ∧ Z' = Z) ∨ (dm (zD Z) < 5 ∧ dn (zD Z) ≤ dm (zD Z) ∧ v = -3 ∧ Z' = Z) ∨ (dm (zD Z) < 5 ∧ dm (zD Z) < dn (zD Z) ∧ v = dm (zD Z) ∧ ∃ r, nf (dn (zD Z)) (zh Z) 0 = some r ∧ Z' = (zK Z, zC Z, uS (zD Z), zh Z ++ [r]))
theorem c_X10_shop {Z : Zt} {σ : Mem} (hZ : GZ Z) (hC : CI Z σ) : CM mX10_shop [.inr 0] σ (CQ σ (nxShop Z)) := by
  obtain ⟨d1, d2, d3, d4, d5, d6, d7, d8, d9, d10, d11, d12⟩ := hC.d
  obtain ⟨w1, w2, w3, w4, w5, w6, w7, w8, w9, w10, w11, w12⟩ := hZ.wf
  have hl := hZ.len
  refine rX10_shop_0 ⟨fun h => ⟨fun h2 => ?_, fun h2 => ⟨Z, Or.inr (Or.inl ⟨by omega, by omega, rfl, rfl⟩), hZ, hC, Same.rf⟩⟩, fun h => ⟨Z, Or.inl ⟨by omega, rfl, rfl⟩, hZ, hC, Same.rf⟩⟩
  obtain ⟨r, hr⟩ := nf_free (n := dn (zD Z)) (pre := zh Z) (by omega)
  have hr2 := nf_some hr
  refine CM.mono (fun _ σ1 hq => ?_) (c_X8_addShop (k := 67) (p := zh Z) (n := dn (zD Z)) (r := r) seats67 (hC.h.cong (mu_nef (by decide))) (by rw [mu_nef (by decide), hl]; exact hC.m) (by omega) w1 hr d1)
  obtain ⟨q1, q2, rfl⟩ := hq
  rw [hl] at q1 q2 ⊢
  have e14 : ∀ j, mu (mu (mu σ 51 10 0) 67 1 ((dm (zD Z) : Int) + 1)) (67 + 2) (dm (zD Z)) (r : Int) 14 j = σ 14 j := fun j => by rw [mu_nef (by decide), mu_nef (by decide), mu_nef (by decide)]
  rw [e14, d2, Int.toNat_natCast]
  refine ⟨by omega, by omega, (zK Z, zC Z, uS (zD Z), zh Z ++ [r]), Or.inr (Or.inr ⟨by omega, by omega, rfl, r, hr, rfl⟩), ?_, ?_, ((((Same.mu (by decide)).tr (Same.mu (by decide))).tr (Same.mu (by decide))).tr (Same.mu (by decide))).tr (Same.mu (by decide))⟩
  · refine ⟨⟨w1, ?_, ?_, w4, w5, w6, w7, w8, fun i hi => ?_, fun i hi => ?_, w11, fun i hi => ?_⟩, ?_, hZ.ok.snoc hr2.2.1 hr2.2.2, hZ.kn, hZ.gc, hZ.wy⟩
    · show dm (zD Z) + 1 ≤ 5
      omega
    · show dm (zD Z) + 1 ≤ dn (zD Z)
      omega
    · show 0 ≤ fup (dV (zD Z)) (dm (zD Z)) 1 i ∧ fup (dV (zD Z)) (dm (zD Z)) 1 i ≤ 50
      unfold fup
      split
      · omega
      · exact w9 i hi
    · show 1 ≤ fup (dV (zD Z)) (dm (zD Z)) 1 i
      have hi2 : i < dm (zD Z) + 1 := hi
      unfold fup
      split
      · omega
      · exact w10 i (by omega)
    · have := w12 i hi
      show (0 ≤ dwa (zD Z) i ∧ dwa (zD Z) i < ((dm (zD Z) + 1 : Nat) : Int)) ∧ (0 ≤ dwb (zD Z) i ∧ dwb (zD Z) i < ((dm (zD Z) + 1 : Nat) : Int)) ∧ (dwe (zD Z) i = 0 ∨ dwe (zD Z) i = 1) ∧ 0 ≤ dwd (zD Z) i ∧ dwd (zD Z) i ≤ 20
      omega
    · show (zh Z ++ [r]).length = dm (zD Z) + 1
      rw [List.length_append, List.length_singleton, hl]
  · refine hC.upd (S := [14, 18, 51, 67, 69]) (((((Same.mu (by decide)).tr (Same.mu (by decide))).tr (Same.mu (by decide))).tr (Same.mu (by decide))).tr (Same.mu (by decide))) (by decide) ?_ ?_ ?_ ?_
    · refine ⟨?_, ?_, fun a b ha hb => ?_, fun a ha => ?_, ?_, ?_, ?_, ?_, ?_, ?_, ?_, ?_⟩
      · rw [mu_nef (by decide), mu_nef (by decide), mu_nef (by decide), mu_nef (by decide), mu_nef (by decide)]; exact d1
      · rw [mu_at, if_pos rfl]; rfl
      · rw [mu_nef (by decide), mu_nef (by decide), mu_nef (by decide), mu_nef (by decide), mu_nef (by decide)]; exact d3 a b ha hb
      · rw [mu_nef (by decide), mu_nef (by decide), mu_nef (by decide), mu_nef (by decide), mu_nef (by decide)]; exact d4 a ha
      · rw [mu_nef (by decide), mu_nef (by decide), mu_nef (by decide), mu_nef (by decide), mu_nef (by decide)]; exact d5
      · rw [mu_nef (by decide), mu_nef (by decide), mu_nef (by decide), mu_nef (by decide), mu_nef (by decide)]; exact d6
      · rw [mu_nef (by decide), mu_setA, setA_eq, mu_nef (by decide), mu_nef (by decide), mu_nef (by decide), d7]; rfl
      · rw [mu_atn (by decide), mu_nef (by decide), e14]; exact d8
      · rw [mu_nef (by decide), mu_nef (by decide), mu_nef (by decide), mu_nef (by decide), mu_nef (by decide)]; exact d9
      · rw [mu_nef (by decide), mu_nef (by decide), mu_nef (by decide), mu_nef (by decide), mu_nef (by decide)]; exact d10
      · rw [mu_nef (by decide), mu_nef (by decide), mu_nef (by decide), mu_nef (by decide), mu_nef (by decide)]; exact d11
      · rw [mu_nef (by decide), mu_nef (by decide), mu_nef (by decide), mu_nef (by decide), mu_nef (by decide)]; exact d12
    · exact q2.cong (by rw [mu_nef (by decide), mu_nef (by decide)])
    · rw [mu_nef (by decide), mu_nef (by decide)]; exact q1
    · rw [mu_nef (by decide), mu_nef (by decide), mu_nef (by decide), mu_nef (by decide), mu_at, if_pos rfl]
def are2 (Z : Zt) (a b : Int) : Prop := isSh Z a ∧ isSh Z b ∧ a ≠ b
def lAt (y a b : Int) : Nat := (25 * y + 5 * a + b).toNat
def nxLoad (Z : Zt) (y a b x v : Int) (Z' : Zt) : Prop := (isY y ∧ are2 Z a b ∧ (0 ≤ x ∧ x ≤ 99) ∧ v = dL (zD Z) (lAt y a b) ∧ Z' = zU Z (uL (zD Z) (fup (dL (zD Z)) (lAt y a b) x))) ∨ (¬ (isY y ∧ are2 Z a b ∧ (0 ≤ x ∧ x ≤ 99)) ∧ v = -2 ∧ Z' = Z)
theorem c_X10_load {Z : Zt} {σ : Mem} {y a b x : Int} (hZ : GZ Z) (hC : CI Z σ) : CM mX10_load [.inr 0, .inl y, .inl a, .inl b, .inl x] σ (CQ σ (nxLoad Z y a b x)) := by
  obtain ⟨d1, d2, d3, d4, d5, d6, d7, d8, d9, d10, d11, d12⟩ := hC.d
  obtain ⟨w1, w2, w3, w4, w5, w6, w7, w8, w9, w10, w11, w12⟩ := hZ.wf
  have bad : ¬ (isY y ∧ are2 Z a b ∧ (0 ≤ x ∧ x ≤ 99)) → CQ σ (nxLoad Z y a b x) (-2) σ := fun h => ⟨Z, Or.inr ⟨h, rfl, rfl⟩, hZ, hC, Same.rf⟩
  refine rX10_load_0 ⟨fun h => bad (fun q => h q.1), fun h => ⟨fun h2 => bad (fun q => h2 ?_), fun h2 => ⟨fun h3 => bad (fun q => by have := q.2.2; omega), fun h3 => ⟨fun h4 => ?_, fun h4 => bad (fun q => by have := q.2.2; omega)⟩⟩⟩⟩
  · rw [d2]; exact q.2.1
  · rw [d2] at h2
    refine ⟨h.1, h.2, h2.1.1, by omega, h2.2.1.1, by omega, zU Z (uL (zD Z) (fup (dL (zD Z)) (lAt y a b) x)), Or.inl ⟨h, h2, ⟨h3, h4⟩, by rw [d6]; rfl, rfl⟩, ?_, ?_, (Same.mu (by decide)).tr (Same.mu (by decide))⟩
    · refine ⟨⟨w1, w2, w3, w4, w5, w6, w7, fun i hi => ?_, w9, w10, w11, w12⟩, hZ.len, hZ.ok, hZ.kn, hZ.gc, hZ.wy⟩
      show 0 ≤ fup (dL (zD Z)) (lAt y a b) x i ∧ fup (dL (zD Z)) (lAt y a b) x i ≤ 99
      unfold fup
      split
      · exact ⟨h3, h4⟩
      · exact w8 i hi
    · refine hC.upd (S := [16, 51]) ((Same.mu (by decide)).tr (Same.mu (by decide))) (by decide) ?_ ?_ ?_ ?_
      · refine ⟨?_, ?_, fun a b ha hb => ?_, fun a ha => ?_, ?_, ?_, ?_, ?_, ?_, ?_, ?_, ?_⟩
        · rw [mu_nef (by decide), mu_nef (by decide)]; exact d1
        · rw [mu_nef (by decide), mu_nef (by decide)]; exact d2
        · rw [mu_nef (by decide), mu_nef (by decide)]; exact d3 a b ha hb
        · rw [mu_nef (by decide), mu_nef (by decide)]; exact d4 a ha
        · rw [mu_nef (by decide), mu_nef (by decide)]; exact d5
        · rw [mu_setA, setA_eq, mu_nef (by decide), d6]; rfl
        · rw [mu_nef (by decide), mu_nef (by decide)]; exact d7
        · rw [mu_nef (by decide), mu_nef (by decide)]; exact d8
        · rw [mu_nef (by decide), mu_nef (by decide)]; exact d9
        · rw [mu_nef (by decide), mu_nef (by decide)]; exact d10
        · rw [mu_nef (by decide), mu_nef (by decide)]; exact d11
        · rw [mu_nef (by decide), mu_nef (by decide)]; exact d12
      · exact hC.h.cong (by rw [mu_nef (by decide), mu_nef (by decide)])
      · rw [mu_nef (by decide), mu_nef (by decide)]; exact hC.m
      · rw [mu_nef (by decide), mu_at, if_pos rfl]
def nxWeight (Z : Zt) (s x v : Int) (Z' : Zt) : Prop := (isSh Z s ∧ (1 ≤ x ∧ x ≤ 50) ∧ v = dV (zD Z) s.toNat ∧ Z' = zU Z (uV (zD Z) (fup (dV (zD Z)) s.toNat x))) ∨ (¬ (isSh Z s ∧ (1 ≤ x ∧ x ≤ 50)) ∧ v = -2 ∧ Z' = Z)
theorem c_X10_weight {Z : Zt} {σ : Mem} {s x : Int} (hZ : GZ Z) (hC : CI Z σ) : CM mX10_weight [.inr 0, .inl s, .inl x] σ (CQ σ (nxWeight Z s x)) := by
  obtain ⟨d1, d2, d3, d4, d5, d6, d7, d8, d9, d10, d11, d12⟩ := hC.d
  obtain ⟨w1, w2, w3, w4, w5, w6, w7, w8, w9, w10, w11, w12⟩ := hZ.wf
  have bad : ¬ (isSh Z s ∧ (1 ≤ x ∧ x ≤ 50)) → CQ σ (nxWeight Z s x) (-2) σ := fun h => ⟨Z, Or.inr ⟨h, rfl, rfl⟩, hZ, hC, Same.rf⟩
  refine rX10_weight_0 ⟨fun h => bad (fun q => h (by rw [d2]; exact q.1)), fun h => ⟨fun h3 => bad (fun q => by have := q.2; omega), fun h3 => ⟨fun h4 => ?_, fun h4 => bad (fun q => by have := q.2; omega)⟩⟩⟩
  rw [d2] at h
  refine ⟨h.1, by omega, zU Z (uV (zD Z) (fup (dV (zD Z)) s.toNat x)), Or.inl ⟨h, ⟨h3, h4⟩, by rw [d7], rfl⟩, ?_, ?_, (Same.mu (by decide)).tr (Same.mu (by decide))⟩
  · refine ⟨⟨w1, w2, w3, w4, w5, w6, w7, w8, fun i hi => ?_, fun i hi => ?_, w11, w12⟩, hZ.len, hZ.ok, hZ.kn, hZ.gc, hZ.wy⟩
    · show 0 ≤ fup (dV (zD Z)) s.toNat x i ∧ fup (dV (zD Z)) s.toNat x i ≤ 50
      unfold fup
      split
      · omega
      · exact w9 i hi
    · show 1 ≤ fup (dV (zD Z)) s.toNat x i
      unfold fup
      split
      · omega
      · exact w10 i hi
  · refine hC.upd (S := [18, 51]) ((Same.mu (by decide)).tr (Same.mu (by decide))) (by decide) ?_ ?_ ?_ ?_
    · refine ⟨?_, ?_, fun a b ha hb => ?_, fun a ha => ?_, ?_, ?_, ?_, ?_, ?_, ?_, ?_, ?_⟩
      · rw [mu_nef (by decide), mu_nef (by decide)]; exact d1
      · rw [mu_nef (by decide), mu_nef (by decide)]; exact d2
      · rw [mu_nef (by decide), mu_nef (by decide)]; exact d3 a b ha hb
      · rw [mu_nef (by decide), mu_nef (by decide)]; exact d4 a ha
      · rw [mu_nef (by decide), mu_nef (by decide)]; exact d5
      · rw [mu_nef (by decide), mu_nef (by decide)]; exact d6
      · rw [mu_setA, setA_eq, mu_nef (by decide), d7]; rfl
      · rw [mu_nef (by decide), mu_nef (by decide)]; exact d8
      · rw [mu_nef (by decide), mu_nef (by decide)]; exact d9
      · rw [mu_nef (by decide), mu_nef (by decide)]; exact d10
      · rw [mu_nef (by decide), mu_nef (by decide)]; exact d11
      · rw [mu_nef (by decide), mu_nef (by decide)]; exact d12
    · exact hC.h.cong (by rw [mu_nef (by decide), mu_nef (by decide)])
    · rw [mu_nef (by decide), mu_nef (by decide)]; exact hC.m
    · rw [mu_nef (by decide), mu_at, if_pos rfl]
def nxWish (Z : Zt) (a b e x v : Int) (Z' : Zt) : Prop := (¬ (are2 Z a b ∧ (0 ≤ x ∧ x ≤ 20)) ∧ v = -2 ∧ Z' = Z) ∨ (are2 Z a b ∧ (0 ≤ x ∧ x ≤ 20) ∧ dwn (zD Z) = 6 ∧ v = -4 ∧ Z' = Z) ∨ (are2 Z a b ∧ (0 ≤ x ∧ x ≤ 20) ∧ dwn (zD Z) < 6 ∧ v = dwn (zD Z) ∧ Z' = zU Z (uW (zD Z) (dwn (zD Z) + 1) (fup (dwa (zD Z)) (dwn (zD Z)) a) (fup (dwb (zD Z)) (dwn (zD Z)) b) (fup (dwe (zD Z)) (dwn (zD Z)) e) (fup (dwd (zD Z)) (dwn (zD Z)) x)))
theorem c_X10_wish {Z : Zt} {σ : Mem} {a b e x : Int} (hZ : GZ Z) (hC : CI Z σ) (he : e = 0 ∨ e = 1) : CM mX10_wish [.inr 0, .inl a, .inl b, .inl e, .inl x] σ (CQ σ (nxWish Z a b e x)) := by
  obtain ⟨d1, d2, d3, d4, d5, d6, d7, d8, d9, d10, d11, d12⟩ := hC.d
  obtain ⟨w1, w2, w3, w4, w5, w6, w7, w8, w9, w10, w11, w12⟩ := hZ.wf
  have bad : ¬ (are2 Z a b ∧ (0 ≤ x ∧ x ≤ 20)) → CQ σ (nxWish Z a b e x) (-2) σ := fun h => ⟨Z, Or.inl ⟨h, rfl, rfl⟩, hZ, hC, Same.rf⟩
  refine rX10_wish_0 ⟨fun h => bad (fun q => h (by rw [d2]; exact q.1)), fun h => ⟨fun h3 => bad (fun q => by have := q.2; omega), fun h3 => ⟨fun h4 => ?_, fun h4 => bad (fun q => by have := q.2; omega)⟩⟩⟩
  rw [d2] at h
  have hab : are2 Z a b := h
  refine ⟨fun h5 => ?_, fun h5 => ⟨Z, Or.inr (Or.inl ⟨h, ⟨h3, h4⟩, by omega, rfl, rfl⟩), hZ, hC, Same.rf⟩⟩
  rw [d8, Int.toNat_natCast]
  have hS : Same [14, 20, 22, 24, 26, 51] σ (mu (mu (mu (mu (mu (mu σ 51 10 0) 20 (dwn (zD Z)) a) 22 (dwn (zD Z)) b) 24 (dwn (zD Z)) e) 26 (dwn (zD Z)) x) 14 7 ((dwn (zD Z) : Int) + 1)) := (((((Same.mu (by decide)).tr (Same.mu (by decide))).tr (Same.mu (by decide))).tr (Same.mu (by decide))).tr (Same.mu (by decide))).tr (Same.mu (by decide))
  refine ⟨by omega, he, _, Or.inr (Or.inr ⟨h, ⟨h3, h4⟩, by omega, rfl, rfl⟩), ?_, ?_, hS.wk (by decide)⟩
  · refine ⟨⟨w1, w2, w3, w4, w5, w6, w7, w8, w9, w10, ?_, fun i hi => ?_⟩, hZ.len, hZ.ok, hZ.kn, hZ.gc, hZ.wy⟩
    · show dwn (zD Z) + 1 ≤ 6
      omega
    · show (0 ≤ fup (dwa (zD Z)) (dwn (zD Z)) a i ∧ fup (dwa (zD Z)) (dwn (zD Z)) a i < dm (zD Z)) ∧ (0 ≤ fup (dwb (zD Z)) (dwn (zD Z)) b i ∧ fup (dwb (zD Z)) (dwn (zD Z)) b i < dm (zD Z)) ∧ (fup (dwe (zD Z)) (dwn (zD Z)) e i = 0 ∨ fup (dwe (zD Z)) (dwn (zD Z)) e i = 1) ∧ 0 ≤ fup (dwd (zD Z)) (dwn (zD Z)) x i ∧ fup (dwd (zD Z)) (dwn (zD Z)) x i ≤ 20
      have hi2 : i < dwn (zD Z) + 1 := hi
      unfold fup
      by_cases q : i = dwn (zD Z)
      · simp only [q, if_true]
        exact ⟨h.1, h.2.1, he, h3, h4⟩
      · simp only [q, if_false]
        exact w12 i (by omega)
  · refine hC.upd (S := [14, 20, 22, 24, 26, 51]) hS (by decide) ?_ ?_ ?_ ?_
    · refine ⟨?_, ?_, fun a b ha hb => ?_, fun a ha => ?_, ?_, ?_, ?_, ?_, ?_, ?_, ?_, ?_⟩
      · rw [hS 1 (by decide)]; exact d1
      · rw [mu_atn (by decide), mu_nef (by decide), mu_nef (by decide), mu_nef (by decide), mu_nef (by decide), mu_nef (by decide)]; exact d2
      · rw [hS 7 (by decide)]; exact d3 a b ha hb
      · rw [hS 9 (by decide)]; exact d4 a ha
      · rw [hS 1 (by decide)]; exact d5
      · rw [hS 16 (by decide)]; exact d6
      · rw [hS 18 (by decide)]; exact d7
      · rw [mu_at, if_pos rfl]; rfl
      · rw [mu_nef (by decide), mu_nef (by decide), mu_nef (by decide), mu_nef (by decide), mu_setA, setA_eq, mu_nef (by decide), d9]; rfl
      · rw [mu_nef (by decide), mu_nef (by decide), mu_nef (by decide), mu_setA, setA_eq, mu_nef (by decide), mu_nef (by decide), d10]; rfl
      · rw [mu_nef (by decide), mu_nef (by decide), mu_setA, setA_eq, mu_nef (by decide), mu_nef (by decide), mu_nef (by decide), d11]; rfl
      · rw [mu_nef (by decide), mu_setA, setA_eq, mu_nef (by decide), mu_nef (by decide), mu_nef (by decide), mu_nef (by decide), d12]; rfl
    · exact hC.h.cong (hS 69 (by decide))
    · rw [hS 67 (by decide)]; exact hC.m
    · rw [mu_nef (by decide), mu_nef (by decide), mu_nef (by decide), mu_nef (by decide), mu_nef (by decide), mu_at, if_pos rfl]
def nxUnwish (Z : Zt) (w v : Int) (Z' : Zt) : Prop := (¬ (0 ≤ w ∧ w < dwn (zD Z)) ∧ v = -2 ∧ Z' = Z) ∨ (0 ≤ w ∧ w < dwn (zD Z) ∧ v = 1 ∧ Z' = zU Z (uW (zD Z) (dwn (zD Z) - 1) (shF (dwa (zD Z)) w.toNat (dwn (zD Z) - 1)) (shF (dwb (zD Z)) w.toNat (dwn (zD Z) - 1)) (shF (dwe (zD Z)) w.toNat (dwn (zD Z) - 1)) (shF (dwd (zD Z)) w.toNat (dwn (zD Z) - 1))))
theorem c_X10_unwish {Z : Zt} {σ : Mem} {x : Int} (hZ : GZ Z) (hC : CI Z σ) : CM mX10_unwish [.inr 0, .inl x] σ (CQ σ (nxUnwish Z x)) := by
  obtain ⟨d1, d2, d3, d4, d5, d6, d7, d8, d9, d10, d11, d12⟩ := hC.d
  obtain ⟨w1, w2, w3, w4, w5, w6, w7, w8, w9, w10, w11, w12⟩ := hZ.wf
  have bad : ¬ (0 ≤ x ∧ x < dwn (zD Z)) → CQ σ (nxUnwish Z x) (-2) σ := fun h => ⟨Z, Or.inl ⟨h, rfl, rfl⟩, hZ, hC, Same.rf⟩
  refine rX10_unwish_0 ⟨fun h => bad (by omega), fun h => ⟨fun h2 => ?_, fun h2 => bad (by omega)⟩⟩
  rw [d8] at h2
  refine CM.mono (fun _ σ1 hq => ?_) (c_X9_dropWish (g := x.toNat) (c := dwn (zD Z)) (by rw [mu_nef (by decide)]; exact d8) w11 (by omega) (by omega))
  obtain ⟨q1, q2, q3, q4, q5, q6⟩ := hq
  rw [mu_nef (by decide)] at q1 q2 q3 q4 q5
  have hS : Same [14, 20, 22, 24, 26, 51] σ σ1 := (Same.mu (by decide)).tr (q6.wk (by decide))
  refine ⟨_, Or.inr ⟨h, h2, rfl, rfl⟩, ?_, ?_, hS.wk (by decide)⟩
  · refine ⟨⟨w1, w2, w3, w4, w5, w6, w7, w8, w9, w10, ?_, fun i hi => ?_⟩, hZ.len, hZ.ok, hZ.kn, hZ.gc, hZ.wy⟩
    · show dwn (zD Z) - 1 ≤ 6
      omega
    · have hi2 : i < dwn (zD Z) - 1 := hi
      show (0 ≤ shF (dwa (zD Z)) x.toNat (dwn (zD Z) - 1) i ∧ shF (dwa (zD Z)) x.toNat (dwn (zD Z) - 1) i < dm (zD Z)) ∧ (0 ≤ shF (dwb (zD Z)) x.toNat (dwn (zD Z) - 1) i ∧ shF (dwb (zD Z)) x.toNat (dwn (zD Z) - 1) i < dm (zD Z)) ∧ (shF (dwe (zD Z)) x.toNat (dwn (zD Z) - 1) i = 0 ∨ shF (dwe (zD Z)) x.toNat (dwn (zD Z) - 1) i = 1) ∧ 0 ≤ shF (dwd (zD Z)) x.toNat (dwn (zD Z) - 1) i ∧ shF (dwd (zD Z)) x.toNat (dwn (zD Z) - 1) i ≤ 20
      unfold shF
      by_cases q : x.toNat ≤ i ∧ i < dwn (zD Z) - 1
      · simp only [q, and_self, if_true]
        exact w12 (i + 1) (by omega)
      · simp only [q, if_false]
        exact w12 i (by omega)
  · refine hC.upd (S := [14, 20, 22, 24, 26, 51]) hS (by decide) ?_ ?_ ?_ ?_
    · refine ⟨?_, ?_, fun a b ha hb => ?_, fun a ha => ?_, ?_, ?_, ?_, ?_, ?_, ?_, ?_, ?_⟩
      · rw [hS 1 (by decide)]; exact d1
      · rw [q5]; exact d2
      · rw [hS 7 (by decide)]; exact d3 a b ha hb
      · rw [hS 9 (by decide)]; exact d4 a ha
      · rw [hS 1 (by decide)]; exact d5
      · rw [hS 16 (by decide)]; exact d6
      · rw [hS 18 (by decide)]; exact d7
      · rw [q5]
        show fup (σ 14) 7 ((dwn (zD Z) : Int) - 1) 7 = ((dwn (zD Z) - 1 : Nat) : Int)
        unfold fup
        rw [if_pos rfl]
        omega
      · rw [q1, d9]; rfl
      · rw [q2, d10]; rfl
      · rw [q3, d11]; rfl
      · rw [q4, d12]; rfl
    · exact hC.h.cong (hS 69 (by decide))
    · rw [hS 67 (by decide)]; exact hC.m
    · rw [q6 51 (by decide), mu_at, if_pos rfl]
