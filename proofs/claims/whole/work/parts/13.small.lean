/-! ===== the shops' numbers, the ground's numbers: methods that only read or write ===== -/
set_option maxRecDepth 100000 in
theorem rX9_shops_0  {σ : Mem} {Q : Int → Mem → Prop} (h : Q (σ 14 6) σ) : CM mX9_shops [.inr 14] σ Q := by
  refine CM_of_GO (by decide +kernel) rfl (Nat.le_of_ble_eq_true rfl) ?_
  show GO none mX9_shops 0 [some (.inr 14)] [] σ Q
  refine g_aload_n dX9_shops_0 rfl rfl ?_
  refine g_getI flX9_35 (by decide) rfl (by decide) rfl dX9_shops_1 ?_
  exact g_ireturn rfl dX9_shops_4 h
set_option maxRecDepth 100000 in
theorem rX9_wishes_0  {σ : Mem} {Q : Int → Mem → Prop} (h : Q (σ 14 7) σ) : CM mX9_wishes [.inr 14] σ Q := by
  refine CM_of_GO (by decide +kernel) rfl (Nat.le_of_ble_eq_true rfl) ?_
  show GO none mX9_wishes 0 [some (.inr 14)] [] σ Q
  refine g_aload_n dX9_wishes_0 rfl rfl ?_
  refine g_getI flX9_39 (by decide) rfl (by decide) rfl dX9_wishes_1 ?_
  exact g_ireturn rfl dX9_wishes_4 h
set_option maxRecDepth 100000 in
theorem rX9_hasShop_0 {x1 : Int}  {σ : Mem} {Q : Int → Mem → Prop} (h : (x1 < 0 → Q 0 σ) ∧ (0 ≤ x1 → ((σ 14 6) ≤ x1 → Q 0 σ) ∧ (x1 < (σ 14 6) → Q 1 σ))) : CM mX9_hasShop [.inr 14, .inl x1] σ Q := by
  refine CM_of_GO (by decide +kernel) rfl (Nat.le_of_ble_eq_true rfl) ?_
  show GO none mX9_hasShop 0 [some (.inr 14), some (.inl x1)] [] σ Q
  refine g_iload_n dX9_hasShop_0 rfl rfl ?_
  refine g_if_lt (tgt := 16) dX9_hasShop_1 (by decide) (fun c1 => ?_) (fun c1 => ?_)
  · have h := h.1 c1
    refine g_iconst dX9_hasShop_16 (by decide) ?_
    exact g_zreturn rfl dX9_hasShop_17 (by decide) h
  · have h := h.2 c1
    refine g_iload_n dX9_hasShop_4 rfl rfl ?_
    refine g_aload_n dX9_hasShop_5 rfl rfl ?_
    refine g_getI flX9_35 (by decide) rfl (by decide) rfl dX9_hasShop_6 ?_
    refine g_icmp_ge (tgt := 16) dX9_hasShop_9 (by decide) (fun c2 => ?_) (fun c2 => ?_)
    · have h := h.1 c2
      refine g_iconst dX9_hasShop_16 (by decide) ?_
      exact g_zreturn rfl dX9_hasShop_17 (by decide) h
    · have h := h.2 c2
      refine g_iconst dX9_hasShop_12 (by decide) ?_
      refine g_goto (tgt := 17) dX9_hasShop_13 (by decide) ?_
      exact g_zreturn rfl dX9_hasShop_17 (by decide) h
set_option maxRecDepth 100000 in
theorem rX9_weightOf_0 {x1 : Int}  {σ : Mem} {Q : Int → Mem → Prop} (h : ((0 ≤ x1) ∧ (((x1 < 5) ∧ (Q (σ 18 (x1).toNat) σ))))) : CM mX9_weightOf [.inr 14, .inl x1] σ Q := by
  refine CM_of_GO (by decide +kernel) rfl (Nat.le_of_ble_eq_true rfl) ?_
  show GO none mX9_weightOf 0 [some (.inr 14), some (.inl x1)] [] σ Q
  refine g_aload_n dX9_weightOf_0 rfl rfl ?_
  refine g_getR (r' := 17) flX9_20 (by decide) rfl (by decide) rfl dX9_weightOf_1 ?_
  refine g_iload_n dX9_weightOf_4 rfl rfl ?_
  obtain ⟨p1, h⟩ := h
  obtain ⟨p2, h⟩ := h
  refine g_invVI (as := [.inl x1]) (rest := []) okX7_get mlX9_54 (by decide) rfl ⟨_, _, rfl⟩ rfl ⟨Nat.le_of_ble_eq_true rfl, Nat.le_of_ble_eq_true rfl⟩ (Nat.le_of_ble_eq_true rfl) rfl dX9_weightOf_5 (c_X7_get ⟨by decide, by decide, rfl, rfl, rfl⟩ p1 p2) (Or.inl rfl) (fun v3 σ4 e5 => ?_)
  obtain ⟨e5a, e5b⟩ := e5; subst v3; subst σ4
  exact g_ireturn rfl dX9_weightOf_8 h
set_option maxRecDepth 100000 in
theorem rX9_changeWeight_0 {x1 x2 : Int}  {σ : Mem} {Q : Int → Mem → Prop} (h : ((0 ≤ x1) ∧ (((x1 < 5) ∧ (Q (σ 18 (x1).toNat) (mu σ 18 (x1).toNat x2)))))) : CM mX9_changeWeight [.inr 14, .inl x1, .inl x2] σ Q := by
  refine CM_of_GO (by decide +kernel) rfl (Nat.le_of_ble_eq_true rfl) ?_
  show GO none mX9_changeWeight 0 [some (.inr 14), some (.inl x1), some (.inl x2), none] [] σ Q
  refine g_aload_n dX9_changeWeight_0 rfl rfl ?_
  refine g_getR (r' := 17) flX9_20 (by decide) rfl (by decide) rfl dX9_changeWeight_1 ?_
  refine g_iload_n dX9_changeWeight_4 rfl rfl ?_
  obtain ⟨p1, h⟩ := h
  obtain ⟨p2, h⟩ := h
  refine g_invVI (as := [.inl x1]) (rest := []) okX7_get mlX9_54 (by decide) rfl ⟨_, _, rfl⟩ rfl ⟨Nat.le_of_ble_eq_true rfl, Nat.le_of_ble_eq_true rfl⟩ (Nat.le_of_ble_eq_true rfl) rfl dX9_changeWeight_5 (c_X7_get ⟨by decide, by decide, rfl, rfl, rfl⟩ p1 p2) (Or.inl rfl) (fun v3 σ4 e5 => ?_)
  obtain ⟨e5a, e5b⟩ := e5; subst v3; subst σ4
  refine g_istore_n (ls' := [some (.inr 14), some (.inl x1), some (.inl x2), some (.inl (σ 18 (x1).toNat))]) dX9_changeWeight_8 rfl (by decide) rfl ?_
  refine g_aload_n dX9_changeWeight_9 rfl rfl ?_
  refine g_getR (r' := 17) flX9_20 (by decide) rfl (by decide) rfl dX9_changeWeight_10 ?_
  refine g_iload_n dX9_changeWeight_13 rfl rfl ?_
  refine g_iload_n dX9_changeWeight_14 rfl rfl ?_
  refine g_invVV (as := [.inl x1, .inl x2]) (rest := []) okX7_set mlX9_46 (by decide) rfl ⟨_, _, rfl⟩ rfl ⟨Nat.le_of_ble_eq_true rfl, Nat.le_of_ble_eq_true rfl⟩ (Nat.le_of_ble_eq_true rfl) rfl dX9_changeWeight_15 (c_X7_set ⟨by decide, by decide, rfl, rfl, rfl⟩ p1 p2) rfl (fun σ7 e8 => ?_)
  subst σ7
  refine g_iload_n dX9_changeWeight_18 rfl rfl ?_
  exact g_ireturn rfl dX9_changeWeight_19 h
set_option maxRecDepth 100000 in
theorem rX9_addShop_0  {σ : Mem} {Q : Int → Mem → Prop} (h : ((0 ≤ (σ 14 6)) ∧ ((((σ 14 6) < 5) ∧ (((inR ((σ 14 6) + 1)) ∧ (Q (σ 14 6) (mu (mu σ 18 ((σ 14 6)).toNat 1) 14 6 ((σ 14 6) + 1))))))))) : CM mX9_addShop [.inr 14] σ Q := by
  refine CM_of_GO (by decide +kernel) rfl (Nat.le_of_ble_eq_true rfl) ?_
  show GO none mX9_addShop 0 [some (.inr 14), none] [] σ Q
  refine g_aload_n dX9_addShop_0 rfl rfl ?_
  refine g_getI flX9_35 (by decide) rfl (by decide) rfl dX9_addShop_1 ?_
  refine g_istore_n (ls' := [some (.inr 14), some (.inl (σ 14 6))]) dX9_addShop_4 rfl (by decide) rfl ?_
  refine g_aload_n dX9_addShop_5 rfl rfl ?_
  refine g_getR (r' := 17) flX9_20 (by decide) rfl (by decide) rfl dX9_addShop_6 ?_
  refine g_iload_n dX9_addShop_9 rfl rfl ?_
  refine g_iconst dX9_addShop_10 (by decide) ?_
  obtain ⟨p1, h⟩ := h
  obtain ⟨p2, h⟩ := h
  refine g_invVV (as := [.inl (σ 14 6), .inl 1]) (rest := []) okX7_set mlX9_46 (by decide) rfl ⟨_, _, rfl⟩ rfl ⟨Nat.le_of_ble_eq_true rfl, Nat.le_of_ble_eq_true rfl⟩ (Nat.le_of_ble_eq_true rfl) rfl dX9_addShop_11 (c_X7_set ⟨by decide, by decide, rfl, rfl, rfl⟩ p1 p2) rfl (fun σ4 e5 => ?_)
  subst σ4
  refine g_aload_n dX9_addShop_14 rfl rfl ?_
  refine g_dup dX9_addShop_15 ?_
  refine g_getI flX9_35 (by decide) rfl (by decide) rfl dX9_addShop_16 ?_
  refine g_top (w := (σ 14 6)) rfl ?_
  refine g_iconst dX9_addShop_19 (by decide) ?_
  obtain ⟨p6, h⟩ := h
  refine g_iadd dX9_addShop_20 p6 ?_
  refine g_putI fpX9_35 (by decide) rfl (by decide) rfl (Or.inl rfl) dX9_addShop_21 ?_
  refine g_iload_n dX9_addShop_24 rfl rfl ?_
  exact g_ireturn rfl dX9_addShop_25 h
set_option maxRecDepth 100000 in
theorem rX9_loadAt_0 {x0 x1 x2 : Int}  {σ : Mem} {Q : Int → Mem → Prop} (h : ((inR (x0 * 5)) ∧ (((inR ((x0 * 5) + x1)) ∧ (((inR (((x0 * 5) + x1) * 5)) ∧ (((inR ((((x0 * 5) + x1) * 5) + x2)) ∧ (Q ((((x0 * 5) + x1) * 5) + x2) σ))))))))) : CM mX9_loadAt [.inl x0, .inl x1, .inl x2] σ Q := by
  refine CM_of_GO (by decide +kernel) rfl (Nat.le_of_ble_eq_true rfl) ?_
  show GO none mX9_loadAt 0 [some (.inl x0), some (.inl x1), some (.inl x2)] [] σ Q
  refine g_iload_n dX9_loadAt_0 rfl rfl ?_
  refine g_iconst dX9_loadAt_1 (by decide) ?_
  obtain ⟨p1, h⟩ := h
  refine g_imul dX9_loadAt_2 p1 ?_
  refine g_iload_n dX9_loadAt_3 rfl rfl ?_
  obtain ⟨p2, h⟩ := h
  refine g_iadd dX9_loadAt_4 p2 ?_
  refine g_iconst dX9_loadAt_5 (by decide) ?_
  obtain ⟨p3, h⟩ := h
  refine g_imul dX9_loadAt_6 p3 ?_
  refine g_iload_n dX9_loadAt_7 rfl rfl ?_
  obtain ⟨p4, h⟩ := h
  refine g_iadd dX9_loadAt_8 p4 ?_
  exact g_ireturn rfl dX9_loadAt_9 h
set_option maxRecDepth 100000 in
theorem rX9_oneOf_0 {x1 : Int}  {σ : Mem} {Q : Int → Mem → Prop} (h : ((0 ≤ x1) ∧ (((x1 < 6) ∧ (Q (σ 20 (x1).toNat) σ))))) : CM mX9_oneOf [.inr 14, .inl x1] σ Q := by
  refine CM_of_GO (by decide +kernel) rfl (Nat.le_of_ble_eq_true rfl) ?_
  show GO none mX9_oneOf 0 [some (.inr 14), some (.inl x1)] [] σ Q
  refine g_aload_n dX9_oneOf_0 rfl rfl ?_
  refine g_getR (r' := 19) flX9_23 (by decide) rfl (by decide) rfl dX9_oneOf_1 ?_
  refine g_iload_n dX9_oneOf_4 rfl rfl ?_
  obtain ⟨p1, h⟩ := h
  obtain ⟨p2, h⟩ := h
  refine g_invVI (as := [.inl x1]) (rest := []) okX7_get mlX9_54 (by decide) rfl ⟨_, _, rfl⟩ rfl ⟨Nat.le_of_ble_eq_true rfl, Nat.le_of_ble_eq_true rfl⟩ (Nat.le_of_ble_eq_true rfl) rfl dX9_oneOf_5 (c_X7_get ⟨by decide, by decide, rfl, rfl, rfl⟩ p1 p2) (Or.inl rfl) (fun v3 σ4 e5 => ?_)
  obtain ⟨e5a, e5b⟩ := e5; subst v3; subst σ4
  exact g_ireturn rfl dX9_oneOf_8 h
set_option maxRecDepth 100000 in
theorem rX9_otherOf_0 {x1 : Int}  {σ : Mem} {Q : Int → Mem → Prop} (h : ((0 ≤ x1) ∧ (((x1 < 6) ∧ (Q (σ 22 (x1).toNat) σ))))) : CM mX9_otherOf [.inr 14, .inl x1] σ Q := by
  refine CM_of_GO (by decide +kernel) rfl (Nat.le_of_ble_eq_true rfl) ?_
  show GO none mX9_otherOf 0 [some (.inr 14), some (.inl x1)] [] σ Q
  refine g_aload_n dX9_otherOf_0 rfl rfl ?_
  refine g_getR (r' := 21) flX9_26 (by decide) rfl (by decide) rfl dX9_otherOf_1 ?_
  refine g_iload_n dX9_otherOf_4 rfl rfl ?_
  obtain ⟨p1, h⟩ := h
  obtain ⟨p2, h⟩ := h
  refine g_invVI (as := [.inl x1]) (rest := []) okX7_get mlX9_54 (by decide) rfl ⟨_, _, rfl⟩ rfl ⟨Nat.le_of_ble_eq_true rfl, Nat.le_of_ble_eq_true rfl⟩ (Nat.le_of_ble_eq_true rfl) rfl dX9_otherOf_5 (c_X7_get ⟨by decide, by decide, rfl, rfl, rfl⟩ p1 p2) (Or.inl rfl) (fun v3 σ4 e5 => ?_)
  obtain ⟨e5a, e5b⟩ := e5; subst v3; subst σ4
  exact g_ireturn rfl dX9_otherOf_8 h
set_option maxRecDepth 100000 in
theorem rX9_isMet_0 {x1 x2 : Int}  {σ : Mem} {Q : Int → Mem → Prop} (h : ((0 ≤ x1) ∧ (((x1 < 6) ∧ (((σ 24 (x1).toNat) ≠ 1 → (x2 = (-1) → Q 1 σ) ∧ (x2 ≠ (-1) → (x2 < (σ 26 (x1).toNat) → Q 0 σ) ∧ ((σ 26 (x1).toNat) ≤ x2 → Q 1 σ))) ∧ ((σ 24 (x1).toNat) = 1 → (x2 = (-1) → Q 0 σ) ∧ (x2 ≠ (-1) → ((σ 26 (x1).toNat) < x2 → Q 0 σ) ∧ (x2 ≤ (σ 26 (x1).toNat) → Q 1 σ)))))))) : CM mX9_isMet [.inr 14, .inl x1, .inl x2] σ Q := by
  refine CM_of_GO (by decide +kernel) rfl (Nat.le_of_ble_eq_true rfl) ?_
  show GO none mX9_isMet 0 [some (.inr 14), some (.inl x1), some (.inl x2), none] [] σ Q
  refine g_aload_n dX9_isMet_0 rfl rfl ?_
  refine g_getR (r' := 25) flX9_32 (by decide) rfl (by decide) rfl dX9_isMet_1 ?_
  refine g_iload_n dX9_isMet_4 rfl rfl ?_
  obtain ⟨p1, h⟩ := h
  obtain ⟨p2, h⟩ := h
  refine g_invVI (as := [.inl x1]) (rest := []) okX7_get mlX9_54 (by decide) rfl ⟨_, _, rfl⟩ rfl ⟨Nat.le_of_ble_eq_true rfl, Nat.le_of_ble_eq_true rfl⟩ (Nat.le_of_ble_eq_true rfl) rfl dX9_isMet_5 (c_X7_get ⟨by decide, by decide, rfl, rfl, rfl⟩ p1 p2) (Or.inl rfl) (fun v3 σ4 e5 => ?_)
  obtain ⟨e5a, e5b⟩ := e5; subst v3; subst σ4
  refine g_istore_n (ls' := [some (.inr 14), some (.inl x1), some (.inl x2), some (.inl (σ 26 (x1).toNat))]) dX9_isMet_8 rfl (by decide) rfl ?_
  refine g_aload_n dX9_isMet_9 rfl rfl ?_
  refine g_getR (r' := 23) flX9_29 (by decide) rfl (by decide) rfl dX9_isMet_10 ?_
  refine g_iload_n dX9_isMet_13 rfl rfl ?_
  refine g_invVI (as := [.inl x1]) (rest := []) okX7_get mlX9_54 (by decide) rfl ⟨_, _, rfl⟩ rfl ⟨Nat.le_of_ble_eq_true rfl, Nat.le_of_ble_eq_true rfl⟩ (Nat.le_of_ble_eq_true rfl) rfl dX9_isMet_14 (c_X7_get ⟨by decide, by decide, rfl, rfl, rfl⟩ p1 p2) (Or.inl rfl) (fun v6 σ7 e8 => ?_)
  obtain ⟨e8a, e8b⟩ := e8; subst v6; subst σ7
  refine g_iconst dX9_isMet_17 (by decide) ?_
  refine g_icmp_ne (tgt := 37) dX9_isMet_18 (by decide) (fun c9 => ?_) (fun c9 => ?_)
  · have h := h.1 c9
    refine g_iload_n dX9_isMet_37 rfl rfl ?_
    refine g_iconst dX9_isMet_38 (by decide) ?_
    refine g_icmp_eq (tgt := 47) dX9_isMet_39 (by decide) (fun c10 => ?_) (fun c10 => ?_)
    · have h := h.1 c10
      refine g_iconst dX9_isMet_47 (by decide) ?_
      refine g_goto (tgt := 52) dX9_isMet_48 (by decide) ?_
      exact g_zreturn rfl dX9_isMet_52 (by decide) h
    · have h := h.2 c10
      refine g_iload_n dX9_isMet_42 rfl rfl ?_
      refine g_iload_n dX9_isMet_43 rfl rfl ?_
      refine g_icmp_lt (tgt := 51) dX9_isMet_44 (by decide) (fun c11 => ?_) (fun c11 => ?_)
      · have h := h.1 c11
        refine g_iconst dX9_isMet_51 (by decide) ?_
        exact g_zreturn rfl dX9_isMet_52 (by decide) h
      · have h := h.2 c11
        refine g_iconst dX9_isMet_47 (by decide) ?_
        refine g_goto (tgt := 52) dX9_isMet_48 (by decide) ?_
        exact g_zreturn rfl dX9_isMet_52 (by decide) h
  · have h := h.2 c9
    refine g_iload_n dX9_isMet_21 rfl rfl ?_
    refine g_iconst dX9_isMet_22 (by decide) ?_
    refine g_icmp_eq (tgt := 35) dX9_isMet_23 (by decide) (fun c12 => ?_) (fun c12 => ?_)
    · have h := h.1 c12
      refine g_iconst dX9_isMet_35 (by decide) ?_
      exact g_zreturn rfl dX9_isMet_36 (by decide) h
    · have h := h.2 c12
      refine g_iload_n dX9_isMet_26 rfl rfl ?_
      refine g_iload_n dX9_isMet_27 rfl rfl ?_
      refine g_icmp_gt (tgt := 35) dX9_isMet_28 (by decide) (fun c13 => ?_) (fun c13 => ?_)
      · have h := h.1 c13
        refine g_iconst dX9_isMet_35 (by decide) ?_
        exact g_zreturn rfl dX9_isMet_36 (by decide) h
      · have h := h.2 c13
        refine g_iconst dX9_isMet_31 (by decide) ?_
        refine g_goto (tgt := 36) dX9_isMet_32 (by decide) ?_
        exact g_zreturn rfl dX9_isMet_36 (by decide) h
set_option maxRecDepth 100000 in
theorem rX9_addWish_0 {x1 x2 x3 x4 : Int}  {σ : Mem} {Q : Int → Mem → Prop} (h : ((0 ≤ (σ 14 7)) ∧ ((((σ 14 7) < 6) ∧ ((x3 = 0 → ((inR ((σ 14 7) + 1)) ∧ (Q (σ 14 7) (mu (mu (mu (mu (mu σ 20 ((σ 14 7)).toNat x1) 22 ((σ 14 7)).toNat x2) 24 ((σ 14 7)).toNat 0) 26 ((σ 14 7)).toNat x4) 14 7 ((σ 14 7) + 1))))) ∧ (x3 ≠ 0 → ((inR ((σ 14 7) + 1)) ∧ (Q (σ 14 7) (mu (mu (mu (mu (mu σ 20 ((σ 14 7)).toNat x1) 22 ((σ 14 7)).toNat x2) 24 ((σ 14 7)).toNat 1) 26 ((σ 14 7)).toNat x4) 14 7 ((σ 14 7) + 1)))))))))) : CM mX9_addWish [.inr 14, .inl x1, .inl x2, .inl x3, .inl x4] σ Q := by
  refine CM_of_GO (by decide +kernel) rfl (Nat.le_of_ble_eq_true rfl) ?_
  show GO none mX9_addWish 0 [some (.inr 14), some (.inl x1), some (.inl x2), some (.inl x3), some (.inl x4), none] [] σ Q
  refine g_aload_n dX9_addWish_0 rfl rfl ?_
  refine g_getI flX9_39 (by decide) rfl (by decide) rfl dX9_addWish_1 ?_
  refine g_istore (ls' := [some (.inr 14), some (.inl x1), some (.inl x2), some (.inl x3), some (.inl x4), some (.inl (σ 14 7))]) dX9_addWish_4 (by decide) rfl ?_
  refine g_aload_n dX9_addWish_6 rfl rfl ?_
  refine g_getR (r' := 19) flX9_23 (by decide) rfl (by decide) rfl dX9_addWish_7 ?_
  refine g_iload dX9_addWish_10 rfl ?_
  refine g_iload_n dX9_addWish_12 rfl rfl ?_
  obtain ⟨p1, h⟩ := h
  obtain ⟨p2, h⟩ := h
  refine g_invVV (as := [.inl (σ 14 7), .inl x1]) (rest := []) okX7_set mlX9_46 (by decide) rfl ⟨_, _, rfl⟩ rfl ⟨Nat.le_of_ble_eq_true rfl, Nat.le_of_ble_eq_true rfl⟩ (Nat.le_of_ble_eq_true rfl) rfl dX9_addWish_13 (c_X7_set ⟨by decide, by decide, rfl, rfl, rfl⟩ p1 p2) rfl (fun σ4 e5 => ?_)
  subst σ4
  refine g_aload_n dX9_addWish_16 rfl rfl ?_
  refine g_getR (r' := 21) flX9_26 (by decide) rfl (by decide) rfl dX9_addWish_17 ?_
  refine g_iload dX9_addWish_20 rfl ?_
  refine g_iload_n dX9_addWish_22 rfl rfl ?_
  refine g_invVV (as := [.inl (σ 14 7), .inl x2]) (rest := []) okX7_set mlX9_46 (by decide) rfl ⟨_, _, rfl⟩ rfl ⟨Nat.le_of_ble_eq_true rfl, Nat.le_of_ble_eq_true rfl⟩ (Nat.le_of_ble_eq_true rfl) rfl dX9_addWish_23 (c_X7_set ⟨by decide, by decide, rfl, rfl, rfl⟩ p1 p2) rfl (fun σ7 e8 => ?_)
  subst σ7
  refine g_aload_n dX9_addWish_26 rfl rfl ?_
  refine g_getR (r' := 23) flX9_29 (by decide) rfl (by decide) rfl dX9_addWish_27 ?_
  refine g_iload dX9_addWish_30 rfl ?_
  refine g_iload_n dX9_addWish_32 rfl rfl ?_
  refine g_if_eq (tgt := 40) dX9_addWish_33 (by decide) (fun c9 => ?_) (fun c9 => ?_)
  · have h := h.1 c9
    refine g_iconst dX9_addWish_40 (by decide) ?_
    refine g_invVV (as := [.inl (σ 14 7), .inl 0]) (rest := []) okX7_set mlX9_46 (by decide) rfl ⟨_, _, rfl⟩ rfl ⟨Nat.le_of_ble_eq_true rfl, Nat.le_of_ble_eq_true rfl⟩ (Nat.le_of_ble_eq_true rfl) rfl dX9_addWish_41 (c_X7_set ⟨by decide, by decide, rfl, rfl, rfl⟩ p1 p2) rfl (fun σ11 e12 => ?_)
    subst σ11
    refine g_aload_n dX9_addWish_44 rfl rfl ?_
    refine g_getR (r' := 25) flX9_32 (by decide) rfl (by decide) rfl dX9_addWish_45 ?_
    refine g_iload dX9_addWish_48 rfl ?_
    refine g_iload dX9_addWish_50 rfl ?_
    refine g_invVV (as := [.inl (σ 14 7), .inl x4]) (rest := []) okX7_set mlX9_46 (by decide) rfl ⟨_, _, rfl⟩ rfl ⟨Nat.le_of_ble_eq_true rfl, Nat.le_of_ble_eq_true rfl⟩ (Nat.le_of_ble_eq_true rfl) rfl dX9_addWish_52 (c_X7_set ⟨by decide, by decide, rfl, rfl, rfl⟩ p1 p2) rfl (fun σ14 e15 => ?_)
    subst σ14
    refine g_aload_n dX9_addWish_55 rfl rfl ?_
    refine g_dup dX9_addWish_56 ?_
    refine g_getI flX9_39 (by decide) rfl (by decide) rfl dX9_addWish_57 ?_
    refine g_top (w := (σ 14 7)) rfl ?_
    refine g_iconst dX9_addWish_60 (by decide) ?_
    obtain ⟨p16, h⟩ := h
    refine g_iadd dX9_addWish_61 p16 ?_
    refine g_putI fpX9_39 (by decide) rfl (by decide) rfl (Or.inl rfl) dX9_addWish_62 ?_
    refine g_iload dX9_addWish_65 rfl ?_
    exact g_ireturn rfl dX9_addWish_67 h
  · have h := h.2 c9
    refine g_iconst dX9_addWish_36 (by decide) ?_
    refine g_goto (tgt := 41) dX9_addWish_37 (by decide) ?_
    refine g_invVV (as := [.inl (σ 14 7), .inl 1]) (rest := []) okX7_set mlX9_46 (by decide) rfl ⟨_, _, rfl⟩ rfl ⟨Nat.le_of_ble_eq_true rfl, Nat.le_of_ble_eq_true rfl⟩ (Nat.le_of_ble_eq_true rfl) rfl dX9_addWish_41 (c_X7_set ⟨by decide, by decide, rfl, rfl, rfl⟩ p1 p2) rfl (fun σ18 e19 => ?_)
    subst σ18
    refine g_aload_n dX9_addWish_44 rfl rfl ?_
    refine g_getR (r' := 25) flX9_32 (by decide) rfl (by decide) rfl dX9_addWish_45 ?_
    refine g_iload dX9_addWish_48 rfl ?_
    refine g_iload dX9_addWish_50 rfl ?_
    refine g_invVV (as := [.inl (σ 14 7), .inl x4]) (rest := []) okX7_set mlX9_46 (by decide) rfl ⟨_, _, rfl⟩ rfl ⟨Nat.le_of_ble_eq_true rfl, Nat.le_of_ble_eq_true rfl⟩ (Nat.le_of_ble_eq_true rfl) rfl dX9_addWish_52 (c_X7_set ⟨by decide, by decide, rfl, rfl, rfl⟩ p1 p2) rfl (fun σ21 e22 => ?_)
    subst σ21
    refine g_aload_n dX9_addWish_55 rfl rfl ?_
    refine g_dup dX9_addWish_56 ?_
    refine g_getI flX9_39 (by decide) rfl (by decide) rfl dX9_addWish_57 ?_
    refine g_top (w := (σ 14 7)) rfl ?_
    refine g_iconst dX9_addWish_60 (by decide) ?_
    obtain ⟨p23, h⟩ := h
    refine g_iadd dX9_addWish_61 p23 ?_
    refine g_putI fpX9_39 (by decide) rfl (by decide) rfl (Or.inl rfl) dX9_addWish_62 ?_
    refine g_iload dX9_addWish_65 rfl ?_
    exact g_ireturn rfl dX9_addWish_67 h
set_option maxRecDepth 100000 in
theorem rX2_kindOf_0 {x1 : Int}  {σ : Mem} {Q : Int → Mem → Prop} (h : ((0 ≤ x1) ∧ (((x1 < 36) ∧ (Q (σ 3 (x1).toNat) σ))))) : CM mX2_kindOf [.inr 1, .inl x1] σ Q := by
  refine CM_of_GO (by decide +kernel) rfl (Nat.le_of_ble_eq_true rfl) ?_
  show GO none mX2_kindOf 0 [some (.inr 1), some (.inl x1)] [] σ Q
  refine g_aload_n dX2_kindOf_0 rfl rfl ?_
  refine g_getR (r' := 2) flX2_14 (by decide) rfl (by decide) rfl dX2_kindOf_1 ?_
  refine g_iload_n dX2_kindOf_4 rfl rfl ?_
  obtain ⟨p1, h⟩ := h
  obtain ⟨p2, h⟩ := h
  refine g_invVI (as := [.inl x1]) (rest := []) okX7_get mlX2_45 (by decide) rfl ⟨_, _, rfl⟩ rfl ⟨Nat.le_of_ble_eq_true rfl, Nat.le_of_ble_eq_true rfl⟩ (Nat.le_of_ble_eq_true rfl) rfl dX2_kindOf_5 (c_X7_get ⟨by decide, by decide, rfl, rfl, rfl⟩ p1 p2) (Or.inl rfl) (fun v3 σ4 e5 => ?_)
  obtain ⟨e5a, e5b⟩ := e5; subst v3; subst σ4
  exact g_ireturn rfl dX2_kindOf_8 h
set_option maxRecDepth 100000 in
theorem rX2_slots_0  {σ : Mem} {Q : Int → Mem → Prop} (h : Q (σ 1 7) σ) : CM mX2_slots [.inr 1] σ Q := by
  refine CM_of_GO (by decide +kernel) rfl (Nat.le_of_ble_eq_true rfl) ?_
  show GO none mX2_slots 0 [some (.inr 1)] [] σ Q
  refine g_aload_n dX2_slots_0 rfl rfl ?_
  refine g_getI flX2_39 (by decide) rfl (by decide) rfl dX2_slots_1 ?_
  exact g_ireturn rfl dX2_slots_4 h
set_option maxRecDepth 100000 in
theorem rX2_hasSlot_0 {x1 : Int}  {σ : Mem} {Q : Int → Mem → Prop} (h : (x1 < 0 → Q 0 σ) ∧ (0 ≤ x1 → ((σ 1 7) ≤ x1 → Q 0 σ) ∧ (x1 < (σ 1 7) → Q 1 σ))) : CM mX2_hasSlot [.inr 1, .inl x1] σ Q := by
  refine CM_of_GO (by decide +kernel) rfl (Nat.le_of_ble_eq_true rfl) ?_
  show GO none mX2_hasSlot 0 [some (.inr 1), some (.inl x1)] [] σ Q
  refine g_iload_n dX2_hasSlot_0 rfl rfl ?_
  refine g_if_lt (tgt := 16) dX2_hasSlot_1 (by decide) (fun c1 => ?_) (fun c1 => ?_)
  · have h := h.1 c1
    refine g_iconst dX2_hasSlot_16 (by decide) ?_
    exact g_zreturn rfl dX2_hasSlot_17 (by decide) h
  · have h := h.2 c1
    refine g_iload_n dX2_hasSlot_4 rfl rfl ?_
    refine g_aload_n dX2_hasSlot_5 rfl rfl ?_
    refine g_getI flX2_39 (by decide) rfl (by decide) rfl dX2_hasSlot_6 ?_
    refine g_icmp_ge (tgt := 16) dX2_hasSlot_9 (by decide) (fun c2 => ?_) (fun c2 => ?_)
    · have h := h.1 c2
      refine g_iconst dX2_hasSlot_16 (by decide) ?_
      exact g_zreturn rfl dX2_hasSlot_17 (by decide) h
    · have h := h.2 c2
      refine g_iconst dX2_hasSlot_12 (by decide) ?_
      refine g_goto (tgt := 17) dX2_hasSlot_13 (by decide) ?_
      exact g_zreturn rfl dX2_hasSlot_17 (by decide) h
set_option maxRecDepth 100000 in
theorem rX2_wayBetween_0 {x1 x2 : Int}  {σ : Mem} {Q : Int → Mem → Prop} (h : ((inR (x1 * 6)) ∧ (((inR ((x1 * 6) + x2)) ∧ (((0 ≤ ((x1 * 6) + x2)) ∧ (((((x1 * 6) + x2) < 36) ∧ (Q (σ 7 (((x1 * 6) + x2)).toNat) σ))))))))) : CM mX2_wayBetween [.inr 1, .inl x1, .inl x2] σ Q := by
  refine CM_of_GO (by decide +kernel) rfl (Nat.le_of_ble_eq_true rfl) ?_
  show GO none mX2_wayBetween 0 [some (.inr 1), some (.inl x1), some (.inl x2)] [] σ Q
  refine g_aload_n dX2_wayBetween_0 rfl rfl ?_
  refine g_getR (r' := 6) flX2_23 (by decide) rfl (by decide) rfl dX2_wayBetween_1 ?_
  refine g_iload_n dX2_wayBetween_4 rfl rfl ?_
  refine g_bipush dX2_wayBetween_5 (by decide) (by decide) ?_
  obtain ⟨p1, h⟩ := h
  refine g_imul dX2_wayBetween_7 p1 ?_
  refine g_iload_n dX2_wayBetween_8 rfl rfl ?_
  obtain ⟨p2, h⟩ := h
  refine g_iadd dX2_wayBetween_9 p2 ?_
  obtain ⟨p3, h⟩ := h
  obtain ⟨p4, h⟩ := h
  refine g_invVI (as := [.inl ((x1 * 6) + x2)]) (rest := []) okX7_get mlX2_45 (by decide) rfl ⟨_, _, rfl⟩ rfl ⟨Nat.le_of_ble_eq_true rfl, Nat.le_of_ble_eq_true rfl⟩ (Nat.le_of_ble_eq_true rfl) rfl dX2_wayBetween_10 (c_X7_get ⟨by decide, by decide, rfl, rfl, rfl⟩ p3 p4) (Or.inl rfl) (fun v5 σ6 e7 => ?_)
  obtain ⟨e7a, e7b⟩ := e7; subst v5; subst σ6
  exact g_ireturn rfl dX2_wayBetween_13 h
set_option maxRecDepth 100000 in
theorem rX2_wayOut_0 {x1 : Int}  {σ : Mem} {Q : Int → Mem → Prop} (h : ((0 ≤ x1) ∧ (((x1 < 6) ∧ (Q (σ 9 (x1).toNat) σ))))) : CM mX2_wayOut [.inr 1, .inl x1] σ Q := by
  refine CM_of_GO (by decide +kernel) rfl (Nat.le_of_ble_eq_true rfl) ?_
  show GO none mX2_wayOut 0 [some (.inr 1), some (.inl x1)] [] σ Q
  refine g_aload_n dX2_wayOut_0 rfl rfl ?_
  refine g_getR (r' := 8) flX2_26 (by decide) rfl (by decide) rfl dX2_wayOut_1 ?_
  refine g_iload_n dX2_wayOut_4 rfl rfl ?_
  obtain ⟨p1, h⟩ := h
  obtain ⟨p2, h⟩ := h
  refine g_invVI (as := [.inl x1]) (rest := []) okX7_get mlX2_45 (by decide) rfl ⟨_, _, rfl⟩ rfl ⟨Nat.le_of_ble_eq_true rfl, Nat.le_of_ble_eq_true rfl⟩ (Nat.le_of_ble_eq_true rfl) rfl dX2_wayOut_5 (c_X7_get ⟨by decide, by decide, rfl, rfl, rfl⟩ p1 p2) (Or.inl rfl) (fun v3 σ4 e5 => ?_)
  obtain ⟨e5a, e5b⟩ := e5; subst v3; subst σ4
  exact g_ireturn rfl dX2_wayOut_8 h
set_option maxRecDepth 100000 in
theorem rX2_changeBound_0 {x1 : Int}  {σ : Mem} {Q : Int → Mem → Prop} (h : Q (σ 1 8) (mu σ 1 8 x1)) : CM mX2_changeBound [.inr 1, .inl x1] σ Q := by
  refine CM_of_GO (by decide +kernel) rfl (Nat.le_of_ble_eq_true rfl) ?_
  show GO none mX2_changeBound 0 [some (.inr 1), some (.inl x1), none] [] σ Q
  refine g_aload_n dX2_changeBound_0 rfl rfl ?_
  refine g_getI flX2_42 (by decide) rfl (by decide) rfl dX2_changeBound_1 ?_
  refine g_istore_n (ls' := [some (.inr 1), some (.inl x1), some (.inl (σ 1 8))]) dX2_changeBound_4 rfl (by decide) rfl ?_
  refine g_aload_n dX2_changeBound_5 rfl rfl ?_
  refine g_iload_n dX2_changeBound_6 rfl rfl ?_
  refine g_putI fpX2_42 (by decide) rfl (by decide) rfl (Or.inl rfl) dX2_changeBound_7 ?_
  refine g_iload_n dX2_changeBound_10 rfl rfl ?_
  exact g_ireturn rfl dX2_changeBound_11 h
set_option maxRecDepth 100000 in
theorem rX2_isOutNear_0 {x1 : Int}  {σ : Mem} {Q : Int → Mem → Prop} (h : ((0 ≤ x1) ∧ (((x1 < 6) ∧ (((σ 1 8) = 41 → Q 1 σ) ∧ ((σ 1 8) ≠ 41 → ((σ 9 (x1).toNat) = (-1) → Q 0 σ) ∧ ((σ 9 (x1).toNat) ≠ (-1) → ((σ 1 8) < (σ 9 (x1).toNat) → Q 0 σ) ∧ ((σ 9 (x1).toNat) ≤ (σ 1 8) → Q 1 σ)))))))) : CM mX2_isOutNear [.inr 1, .inl x1] σ Q := by
  refine CM_of_GO (by decide +kernel) rfl (Nat.le_of_ble_eq_true rfl) ?_
  show GO none mX2_isOutNear 0 [some (.inr 1), some (.inl x1), none] [] σ Q
  refine g_aload_n dX2_isOutNear_0 rfl rfl ?_
  refine g_getR (r' := 8) flX2_26 (by decide) rfl (by decide) rfl dX2_isOutNear_1 ?_
  refine g_iload_n dX2_isOutNear_4 rfl rfl ?_
  obtain ⟨p1, h⟩ := h
  obtain ⟨p2, h⟩ := h
  refine g_invVI (as := [.inl x1]) (rest := []) okX7_get mlX2_45 (by decide) rfl ⟨_, _, rfl⟩ rfl ⟨Nat.le_of_ble_eq_true rfl, Nat.le_of_ble_eq_true rfl⟩ (Nat.le_of_ble_eq_true rfl) rfl dX2_isOutNear_5 (c_X7_get ⟨by decide, by decide, rfl, rfl, rfl⟩ p1 p2) (Or.inl rfl) (fun v3 σ4 e5 => ?_)
  obtain ⟨e5a, e5b⟩ := e5; subst v3; subst σ4
  refine g_istore_n (ls' := [some (.inr 1), some (.inl x1), some (.inl (σ 9 (x1).toNat))]) dX2_isOutNear_8 rfl (by decide) rfl ?_
  refine g_aload_n dX2_isOutNear_9 rfl rfl ?_
  refine g_getI flX2_42 (by decide) rfl (by decide) rfl dX2_isOutNear_10 ?_
  refine g_bipush dX2_isOutNear_13 (by decide) (by decide) ?_
  refine g_icmp_eq (tgt := 31) dX2_isOutNear_15 (by decide) (fun c6 => ?_) (fun c6 => ?_)
  · have h := h.1 c6
    refine g_iconst dX2_isOutNear_31 (by decide) ?_
    refine g_goto (tgt := 36) dX2_isOutNear_32 (by decide) ?_
    exact g_zreturn rfl dX2_isOutNear_36 (by decide) h
  · have h := h.2 c6
    refine g_iload_n dX2_isOutNear_18 rfl rfl ?_
    refine g_iconst dX2_isOutNear_19 (by decide) ?_
    refine g_icmp_eq (tgt := 35) dX2_isOutNear_20 (by decide) (fun c7 => ?_) (fun c7 => ?_)
    · have h := h.1 c7
      refine g_iconst dX2_isOutNear_35 (by decide) ?_
      exact g_zreturn rfl dX2_isOutNear_36 (by decide) h
    · have h := h.2 c7
      refine g_iload_n dX2_isOutNear_23 rfl rfl ?_
      refine g_aload_n dX2_isOutNear_24 rfl rfl ?_
      refine g_getI flX2_42 (by decide) rfl (by decide) rfl dX2_isOutNear_25 ?_
      refine g_icmp_gt (tgt := 35) dX2_isOutNear_28 (by decide) (fun c8 => ?_) (fun c8 => ?_)
      · have h := h.1 c8
        refine g_iconst dX2_isOutNear_35 (by decide) ?_
        exact g_zreturn rfl dX2_isOutNear_36 (by decide) h
      · have h := h.2 c8
        refine g_iconst dX2_isOutNear_31 (by decide) ?_
        refine g_goto (tgt := 36) dX2_isOutNear_32 (by decide) ?_
        exact g_zreturn rfl dX2_isOutNear_36 (by decide) h
set_option maxRecDepth 100000 in
theorem rX10_cellAt_0 {x0 x1 : Int}  {σ : Mem} {Q : Int → Mem → Prop} (h : (x0 < 0 → Q (-1) σ) ∧ (0 ≤ x0 → (6 ≤ x0 → Q (-1) σ) ∧ (x0 < 6 → (x1 < 0 → Q (-1) σ) ∧ (0 ≤ x1 → (x1 < 6 → ((inR (x1 * 6)) ∧ (((inR ((x1 * 6) + x0)) ∧ (Q ((x1 * 6) + x0) σ))))) ∧ (6 ≤ x1 → Q (-1) σ))))) : CM mX10_cellAt [.inl x0, .inl x1] σ Q := by
  refine CM_of_GO (by decide +kernel) rfl (Nat.le_of_ble_eq_true rfl) ?_
  show GO none mX10_cellAt 0 [some (.inl x0), some (.inl x1)] [] σ Q
  refine g_iload_n dX10_cellAt_0 rfl rfl ?_
  refine g_if_lt (tgt := 20) dX10_cellAt_1 (by decide) (fun c1 => ?_) (fun c1 => ?_)
  · have h := h.1 c1
    refine g_iconst dX10_cellAt_20 (by decide) ?_
    refine g_goto (tgt := 30) dX10_cellAt_21 (by decide) ?_
    exact g_ireturn rfl dX10_cellAt_30 h
  · have h := h.2 c1
    refine g_iload_n dX10_cellAt_4 rfl rfl ?_
    refine g_bipush dX10_cellAt_5 (by decide) (by decide) ?_
    refine g_icmp_ge (tgt := 20) dX10_cellAt_7 (by decide) (fun c2 => ?_) (fun c2 => ?_)
    · have h := h.1 c2
      refine g_iconst dX10_cellAt_20 (by decide) ?_
      refine g_goto (tgt := 30) dX10_cellAt_21 (by decide) ?_
      exact g_ireturn rfl dX10_cellAt_30 h
    · have h := h.2 c2
      refine g_iload_n dX10_cellAt_10 rfl rfl ?_
      refine g_if_lt (tgt := 20) dX10_cellAt_11 (by decide) (fun c3 => ?_) (fun c3 => ?_)
      · have h := h.1 c3
        refine g_iconst dX10_cellAt_20 (by decide) ?_
        refine g_goto (tgt := 30) dX10_cellAt_21 (by decide) ?_
        exact g_ireturn rfl dX10_cellAt_30 h
      · have h := h.2 c3
        refine g_iload_n dX10_cellAt_14 rfl rfl ?_
        refine g_bipush dX10_cellAt_15 (by decide) (by decide) ?_
        refine g_icmp_lt (tgt := 24) dX10_cellAt_17 (by decide) (fun c4 => ?_) (fun c4 => ?_)
        · have h := h.1 c4
          refine g_iload_n dX10_cellAt_24 rfl rfl ?_
          refine g_bipush dX10_cellAt_25 (by decide) (by decide) ?_
          obtain ⟨p5, h⟩ := h
          refine g_imul dX10_cellAt_27 p5 ?_
          refine g_iload_n dX10_cellAt_28 rfl rfl ?_
          obtain ⟨p6, h⟩ := h
          refine g_iadd dX10_cellAt_29 p6 ?_
          exact g_ireturn rfl dX10_cellAt_30 h
        · have h := h.2 c4
          refine g_iconst dX10_cellAt_20 (by decide) ?_
          refine g_goto (tgt := 30) dX10_cellAt_21 (by decide) ?_
          exact g_ireturn rfl dX10_cellAt_30 h
set_option maxRecDepth 100000 in
theorem rX10_isYear_0 {x0 : Int}  {σ : Mem} {Q : Int → Mem → Prop} (h : (x0 < 0 → Q 0 σ) ∧ (0 ≤ x0 → (4 ≤ x0 → Q 0 σ) ∧ (x0 < 4 → Q 1 σ))) : CM mX10_isYear [.inl x0] σ Q := by
  refine CM_of_GO (by decide +kernel) rfl (Nat.le_of_ble_eq_true rfl) ?_
  show GO none mX10_isYear 0 [some (.inl x0)] [] σ Q
  refine g_iload_n dX10_isYear_0 rfl rfl ?_
  refine g_if_lt (tgt := 13) dX10_isYear_1 (by decide) (fun c1 => ?_) (fun c1 => ?_)
  · have h := h.1 c1
    refine g_iconst dX10_isYear_13 (by decide) ?_
    exact g_zreturn rfl dX10_isYear_14 (by decide) h
  · have h := h.2 c1
    refine g_iload_n dX10_isYear_4 rfl rfl ?_
    refine g_iconst dX10_isYear_5 (by decide) ?_
    refine g_icmp_ge (tgt := 13) dX10_isYear_6 (by decide) (fun c2 => ?_) (fun c2 => ?_)
    · have h := h.1 c2
      refine g_iconst dX10_isYear_13 (by decide) ?_
      exact g_zreturn rfl dX10_isYear_14 (by decide) h
    · have h := h.2 c2
      refine g_iconst dX10_isYear_9 (by decide) ?_
      refine g_goto (tgt := 14) dX10_isYear_10 (by decide) ?_
      exact g_zreturn rfl dX10_isYear_14 (by decide) h
set_option maxRecDepth 100000 in
theorem rX0_least_0  {σ : Mem} {Q : Int → Mem → Prop} (h : Q (σ 33 5) σ) : CM mX0_least [.inr 33] σ Q := by
  refine CM_of_GO (by decide +kernel) rfl (Nat.le_of_ble_eq_true rfl) ?_
  show GO none mX0_least 0 [some (.inr 33)] [] σ Q
  refine g_aload_n dX0_least_0 rfl rfl ?_
  refine g_getI flX0_21 (by decide) rfl (by decide) rfl dX0_least_1 ?_
  exact g_ireturn rfl dX0_least_4 h
set_option maxRecDepth 100000 in
theorem rX0_howMany_0  {σ : Mem} {Q : Int → Mem → Prop} (h : Q (σ 33 6) σ) : CM mX0_howMany [.inr 33] σ Q := by
  refine CM_of_GO (by decide +kernel) rfl (Nat.le_of_ble_eq_true rfl) ?_
  show GO none mX0_howMany 0 [some (.inr 33)] [] σ Q
  refine g_aload_n dX0_howMany_0 rfl rfl ?_
  refine g_getI flX0_25 (by decide) rfl (by decide) rfl dX0_howMany_1 ?_
  exact g_ireturn rfl dX0_howMany_4 h
set_option maxRecDepth 100000 in
theorem rX0_first_0  {σ : Mem} {Q : Int → Mem → Prop} (h : Q 37 σ) : CM mX0_first [.inr 33] σ Q := by
  refine CM_of_GO (by decide +kernel) ⟨_, rfl⟩ (Nat.le_of_ble_eq_true rfl) ?_
  show GO none mX0_first 0 [some (.inr 33)] [] σ Q
  refine g_aload_n dX0_first_0 rfl rfl ?_
  refine g_getR (r' := 37) flX0_18 (by decide) rfl (by decide) rfl dX0_first_1 ?_
  exact g_areturn rfl dX0_first_4 h
set_option maxRecDepth 100000 in
theorem rX1_found_0  {σ : Mem} {Q : Int → Mem → Prop} (h : Q 44 σ) : CM mX1_found [.inr 40] σ Q := by
  refine CM_of_GO (by decide +kernel) ⟨_, rfl⟩ (Nat.le_of_ble_eq_true rfl) ?_
  show GO none mX1_found 0 [some (.inr 40)] [] σ Q
  refine g_aload_n dX1_found_0 rfl rfl ?_
  refine g_getR (r' := 44) flX1_18 (by decide) rfl (by decide) rfl dX1_found_1 ?_
  exact g_areturn rfl dX1_found_4 h
set_option maxRecDepth 100000 in
theorem rX6_forget_0  {σ : Mem} {Q : Int → Mem → Prop} (h : Q 0 (mu σ 51 10 0)) : CM mX6_forget [.inr 51] σ Q := by
  refine CM_of_GO (by decide +kernel) rfl (Nat.le_of_ble_eq_true rfl) ?_
  show GO none mX6_forget 0 [some (.inr 51)] [] σ Q
  refine g_aload_n dX6_forget_0 rfl rfl ?_
  refine g_iconst dX6_forget_1 (by decide) ?_
  refine g_putI fpX6_43 (by decide) rfl (by decide) rfl (Or.inl rfl) dX6_forget_2 ?_
  exact g_return rfl dX6_forget_5 h
set_option maxRecDepth 100000 in
theorem rX6_price_0  {σ : Mem} {Q : Int → Mem → Prop} (h : Q (σ 51 9) σ) : CM mX6_price [.inr 51] σ Q := by
  refine CM_of_GO (by decide +kernel) rfl (Nat.le_of_ble_eq_true rfl) ?_
  show GO none mX6_price 0 [some (.inr 51)] [] σ Q
  refine g_aload_n dX6_price_0 rfl rfl ?_
  refine g_getI flX6_39 (by decide) rfl (by decide) rfl dX6_price_1 ?_
  exact g_ireturn rfl dX6_price_4 h
theorem c_X9_shops {σ : Mem} : CM mX9_shops [.inr 14] σ (fun v σ1 => v = σ 14 6 ∧ σ1 = σ) := rX9_shops_0 ⟨rfl, rfl⟩
theorem c_X9_wishes {σ : Mem} : CM mX9_wishes [.inr 14] σ (fun v σ1 => v = σ 14 7 ∧ σ1 = σ) := rX9_wishes_0 ⟨rfl, rfl⟩
theorem c_X9_hasShop {σ : Mem} {x : Int} : CM mX9_hasShop [.inr 14, .inl x] σ (fun v σ1 => v = (if 0 ≤ x ∧ x < σ 14 6 then 1 else 0) ∧ σ1 = σ) :=
  rX9_hasShop_0 ⟨fun h => ⟨by rw [if_neg (by omega)], rfl⟩, fun h => ⟨fun h2 => ⟨by rw [if_neg (by omega)], rfl⟩, fun h2 => ⟨by rw [if_pos ⟨h, h2⟩], rfl⟩⟩⟩
theorem c_X9_weightOf {σ : Mem} {x : Int} (h0 : 0 ≤ x) (h5 : x < 5) : CM mX9_weightOf [.inr 14, .inl x] σ (fun v σ1 => v = σ 18 x.toNat ∧ σ1 = σ) := rX9_weightOf_0 ⟨h0, h5, rfl, rfl⟩
theorem c_X9_changeWeight {σ : Mem} {x w : Int} (h0 : 0 ≤ x) (h5 : x < 5) : CM mX9_changeWeight [.inr 14, .inl x, .inl w] σ (fun v σ1 => v = σ 18 x.toNat ∧ σ1 = mu σ 18 x.toNat w) := rX9_changeWeight_0 ⟨h0, h5, rfl, rfl⟩
theorem c_X9_addShop {σ : Mem} (h0 : 0 ≤ σ 14 6) (h5 : σ 14 6 < 5) : CM mX9_addShop [.inr 14] σ (fun v σ1 => v = σ 14 6 ∧ σ1 = mu (mu σ 18 (σ 14 6).toNat 1) 14 6 (σ 14 6 + 1)) := rX9_addShop_0 ⟨h0, h5, by omega, rfl, rfl⟩
theorem c_X9_loadAt {σ : Mem} {y a b : Int} (h1 : 0 ≤ y) (h2 : y < 4) (h3 : 0 ≤ a) (h4 : a < 5) (h5 : 0 ≤ b) (h6 : b < 5) : CM mX9_loadAt [.inl y, .inl a, .inl b] σ (fun v σ1 => v = 25 * y + 5 * a + b ∧ σ1 = σ) := rX9_loadAt_0 ⟨by omega, by omega, by omega, by omega, by omega, rfl⟩
theorem c_X9_oneOf {σ : Mem} {x : Int} (h0 : 0 ≤ x) (h5 : x < 6) : CM mX9_oneOf [.inr 14, .inl x] σ (fun v σ1 => v = σ 20 x.toNat ∧ σ1 = σ) := rX9_oneOf_0 ⟨h0, h5, rfl, rfl⟩
theorem c_X9_otherOf {σ : Mem} {x : Int} (h0 : 0 ≤ x) (h5 : x < 6) : CM mX9_otherOf [.inr 14, .inl x] σ (fun v σ1 => v = σ 22 x.toNat ∧ σ1 = σ) := rX9_otherOf_0 ⟨h0, h5, rfl, rfl⟩
theorem c_X9_isMet {σ : Mem} {x w : Int} (h0 : 0 ≤ x) (h6 : x < 6) : CM mX9_isMet [.inr 14, .inl x, .inl w] σ (fun v σ1 => v = (if (σ 24 x.toNat = 1 ∧ w ≠ -1 ∧ w ≤ σ 26 x.toNat) ∨ (σ 24 x.toNat ≠ 1 ∧ (w = -1 ∨ σ 26 x.toNat ≤ w)) then 1 else 0) ∧ σ1 = σ) := by
  refine rX9_isMet_0 ⟨h0, h6, fun h => ⟨fun h1 => ⟨?_, rfl⟩, fun h1 => ⟨fun h2 => ⟨?_, rfl⟩, fun h2 => ⟨?_, rfl⟩⟩⟩, fun h => ⟨fun h1 => ⟨?_, rfl⟩, fun h1 => ⟨fun h2 => ⟨?_, rfl⟩, fun h2 => ⟨?_, rfl⟩⟩⟩⟩ <;> first
    | (rw [if_pos]; omega)
    | (rw [if_neg]; omega)
theorem c_X9_areTwo_pre {σ : Mem} : True := trivial
theorem c_X9_addWish {σ : Mem} {a b n e : Int} (h0 : 0 ≤ σ 14 7) (h6 : σ 14 7 < 6) (hn : n = 0 ∨ n = 1) : CM mX9_addWish [.inr 14, .inl a, .inl b, .inl n, .inl e] σ (fun v σ1 => v = σ 14 7 ∧ σ1 = mu (mu (mu (mu (mu σ 20 (σ 14 7).toNat a) 22 (σ 14 7).toNat b) 24 (σ 14 7).toNat n) 26 (σ 14 7).toNat e) 14 7 (σ 14 7 + 1)) := by
  refine rX9_addWish_0 ⟨h0, h6, fun h => ⟨by omega, rfl, ?_⟩, fun h => ⟨by omega, rfl, ?_⟩⟩
  · rw [h]
  · rw [show n = 1 by omega]
theorem c_X2_kindOf {σ : Mem} {x : Int} (h0 : 0 ≤ x) (h6 : x < 36) : CM mX2_kindOf [.inr 1, .inl x] σ (fun v σ1 => v = σ 3 x.toNat ∧ σ1 = σ) := rX2_kindOf_0 ⟨h0, h6, rfl, rfl⟩
theorem c_X2_slots {σ : Mem} : CM mX2_slots [.inr 1] σ (fun v σ1 => v = σ 1 7 ∧ σ1 = σ) := rX2_slots_0 ⟨rfl, rfl⟩
theorem c_X2_hasSlot {σ : Mem} {x : Int} : CM mX2_hasSlot [.inr 1, .inl x] σ (fun v σ1 => v = (if 0 ≤ x ∧ x < σ 1 7 then 1 else 0) ∧ σ1 = σ) :=
  rX2_hasSlot_0 ⟨fun h => ⟨by rw [if_neg (by omega)], rfl⟩, fun h => ⟨fun h2 => ⟨by rw [if_neg (by omega)], rfl⟩, fun h2 => ⟨by rw [if_pos ⟨h, h2⟩], rfl⟩⟩⟩
theorem c_X2_wayBetween {σ : Mem} {a b : Int} (h0 : 0 ≤ a) (h1 : a < 6) (h2 : 0 ≤ b) (h3 : b < 6) : CM mX2_wayBetween [.inr 1, .inl a, .inl b] σ (fun v σ1 => v = σ 7 (6 * a + b).toNat ∧ σ1 = σ) :=
  rX2_wayBetween_0 ⟨by omega, by omega, by omega, by omega, by rw [show a * 6 + b = 6 * a + b by omega], rfl⟩
theorem c_X2_wayOut {σ : Mem} {x : Int} (h0 : 0 ≤ x) (h6 : x < 6) : CM mX2_wayOut [.inr 1, .inl x] σ (fun v σ1 => v = σ 9 x.toNat ∧ σ1 = σ) := rX2_wayOut_0 ⟨h0, h6, rfl, rfl⟩
theorem c_X2_changeBound {σ : Mem} {x : Int} : CM mX2_changeBound [.inr 1, .inl x] σ (fun v σ1 => v = σ 1 8 ∧ σ1 = mu σ 1 8 x) := rX2_changeBound_0 ⟨rfl, rfl⟩
theorem c_X2_isOutNear {σ : Mem} {x : Int} (h0 : 0 ≤ x) (h6 : x < 6) : CM mX2_isOutNear [.inr 1, .inl x] σ (fun v σ1 => v = (if σ 1 8 = 41 ∨ (σ 9 x.toNat ≠ -1 ∧ σ 9 x.toNat ≤ σ 1 8) then 1 else 0) ∧ σ1 = σ) := by
  refine rX2_isOutNear_0 ⟨h0, h6, fun h => ⟨?_, rfl⟩, fun h => ⟨fun h1 => ⟨?_, rfl⟩, fun h1 => ⟨fun h2 => ⟨?_, rfl⟩, fun h2 => ⟨?_, rfl⟩⟩⟩⟩ <;> first
    | (rw [if_pos]; omega)
    | (rw [if_neg]; omega)
theorem c_X10_cellAt {σ : Mem} {x y : Int} : CM mX10_cellAt [.inl x, .inl y] σ (fun v σ1 => ((0 ≤ x ∧ x < 6 ∧ 0 ≤ y ∧ y < 6 ∧ v = 6 * y + x) ∨ (¬ (0 ≤ x ∧ x < 6 ∧ 0 ≤ y ∧ y < 6) ∧ v = -1)) ∧ σ1 = σ) := by
  refine rX10_cellAt_0 ⟨fun h => ⟨?_, rfl⟩, fun h => ⟨fun h1 => ⟨?_, rfl⟩, fun h1 => ⟨fun h2 => ⟨?_, rfl⟩, fun h2 => ⟨fun h3 => ⟨by omega, by omega, ?_, rfl⟩, fun h3 => ⟨?_, rfl⟩⟩⟩⟩⟩ <;> omega
theorem c_X10_isYear {σ : Mem} {x : Int} : CM mX10_isYear [.inl x] σ (fun v σ1 => v = (if 0 ≤ x ∧ x < 4 then 1 else 0) ∧ σ1 = σ) :=
  rX10_isYear_0 ⟨fun h => ⟨by rw [if_neg (by omega)], rfl⟩, fun h => ⟨fun h2 => ⟨by rw [if_neg (by omega)], rfl⟩, fun h2 => ⟨by rw [if_pos ⟨h, h2⟩], rfl⟩⟩⟩
theorem c_X0_least {σ : Mem} : CM mX0_least [.inr 33] σ (fun v σ1 => v = σ 33 5 ∧ σ1 = σ) := rX0_least_0 ⟨rfl, rfl⟩
theorem c_X0_howMany {σ : Mem} : CM mX0_howMany [.inr 33] σ (fun v σ1 => v = σ 33 6 ∧ σ1 = σ) := rX0_howMany_0 ⟨rfl, rfl⟩
theorem c_X0_first {σ : Mem} : CM mX0_first [.inr 33] σ (fun v σ1 => v = 37 ∧ σ1 = σ) := rX0_first_0 ⟨rfl, rfl⟩
theorem c_X1_found {σ : Mem} : CM mX1_found [.inr 40] σ (fun v σ1 => v = 44 ∧ σ1 = σ) := rX1_found_0 ⟨rfl, rfl⟩
theorem c_X6_forget {σ : Mem} : CM mX6_forget [.inr 51] σ (fun _ σ1 => σ1 = mu σ 51 10 0) := rX6_forget_0 rfl
theorem c_X6_price {σ : Mem} : CM mX6_price [.inr 51] σ (fun v σ1 => v = σ 51 9 ∧ σ1 = σ) := rX6_price_0 ⟨rfl, rfl⟩
