/-! ===== loads, wishes, weights moved, cells counted ===== -/
def sumF (g : Nat → Int) : Nat → Int
  | 0 => 0
  | n + 1 => sumF g n + g n
theorem sumF_succ (g : Nat → Int) (n : Nat) : sumF g (n + 1) = sumF g n + g n := rfl
theorem sumF_cong {f g : Nat → Int} : ∀ {n : Nat}, (∀ i, i < n → f i = g i) → sumF f n = sumF g n
  | 0, _ => rfl
  | n + 1, h => by rw [sumF_succ, sumF_succ, sumF_cong (fun i hi => h i (by omega)), h n (by omega)]
theorem sumF_bd {f : Nat → Int} {c : Int} : ∀ {n : Nat}, (∀ i, i < n → 0 ≤ f i ∧ f i ≤ c) → 0 ≤ sumF f n ∧ sumF f n ≤ n * c
  | 0, _ => ⟨Int.le_refl _, by simp [sumF]⟩
  | n + 1, h => by
    have h1 := sumF_bd (n := n) (fun i hi => h i (by omega))
    have h2 := h n (by omega)
    rw [sumF_succ]
    refine ⟨by omega, ?_⟩
    rw [show ((n + 1 : Nat) : Int) * c = (n : Int) * c + c by rw [Int.natCast_succ, Int.add_mul]; omega]
    omega
set_option maxRecDepth 100000 in
theorem rX9_areTwo_0 {x1 x2 : Int}  {σ : Mem} {Q : Int → Mem → Prop} (h : (¬ (0 ≤ x1 ∧ x1 < σ 14 6) → Q 0 σ) ∧ (0 ≤ x1 ∧ x1 < σ 14 6 → (¬ (0 ≤ x2 ∧ x2 < σ 14 6) → Q 0 σ) ∧ (0 ≤ x2 ∧ x2 < σ 14 6 → (x1 = x2 → Q 0 σ) ∧ (x1 ≠ x2 → Q 1 σ)))) : CM mX9_areTwo [.inr 14, .inl x1, .inl x2] σ Q := by
  refine CM_of_GO (by decide +kernel) rfl (Nat.le_of_ble_eq_true rfl) ?_
  show GO none mX9_areTwo 0 [some (.inr 14), some (.inl x1), some (.inl x2)] [] σ Q
  refine g_aload_n dX9_areTwo_0 rfl rfl ?_
  refine g_iload_n dX9_areTwo_1 rfl rfl ?_
  refine g_invVI (as := [.inl x1]) (rest := []) okX9_hasShop mlX9_42 (by decide) rfl ⟨_, _, rfl⟩ rfl ⟨Nat.le_of_ble_eq_true rfl, Nat.le_of_ble_eq_true rfl⟩ (Nat.le_of_ble_eq_true rfl) rfl dX9_areTwo_2 (c_X9_hasShop) (Or.inr rfl) (fun v1 σ2 e3 => ?_)
  obtain ⟨e3a, e3b⟩ := e3; subst v1; subst σ2
  refine g_if_eq (tgt := 25) dX9_areTwo_5 (by decide) (fun c4 => ?_) (fun c4 => ?_)
  · have h := h.1 (ite_no c4)
    refine g_iconst dX9_areTwo_25 (by decide) ?_
    exact g_zreturn rfl dX9_areTwo_26 (by decide) h
  · have h := h.2 (ite_yes c4)
    refine g_aload_n dX9_areTwo_8 rfl rfl ?_
    refine g_iload_n dX9_areTwo_9 rfl rfl ?_
    refine g_invVI (as := [.inl x2]) (rest := []) okX9_hasShop mlX9_42 (by decide) rfl ⟨_, _, rfl⟩ rfl ⟨Nat.le_of_ble_eq_true rfl, Nat.le_of_ble_eq_true rfl⟩ (Nat.le_of_ble_eq_true rfl) rfl dX9_areTwo_10 (c_X9_hasShop) (Or.inr rfl) (fun v5 σ6 e7 => ?_)
    obtain ⟨e7a, e7b⟩ := e7; subst v5; subst σ6
    refine g_if_eq (tgt := 25) dX9_areTwo_13 (by decide) (fun c8 => ?_) (fun c8 => ?_)
    · have h := h.1 (ite_no c8)
      refine g_iconst dX9_areTwo_25 (by decide) ?_
      exact g_zreturn rfl dX9_areTwo_26 (by decide) h
    · have h := h.2 (ite_yes c8)
      refine g_iload_n dX9_areTwo_16 rfl rfl ?_
      refine g_iload_n dX9_areTwo_17 rfl rfl ?_
      refine g_icmp_eq (tgt := 25) dX9_areTwo_18 (by decide) (fun c9 => ?_) (fun c9 => ?_)
      · have h := h.1 c9
        refine g_iconst dX9_areTwo_25 (by decide) ?_
        exact g_zreturn rfl dX9_areTwo_26 (by decide) h
      · have h := h.2 c9
        refine g_iconst dX9_areTwo_21 (by decide) ?_
        refine g_goto (tgt := 26) dX9_areTwo_22 (by decide) ?_
        exact g_zreturn rfl dX9_areTwo_26 (by decide) h
set_option maxRecDepth 100000 in
theorem rX9_changeLoad_0 {x1 x2 x3 x4 : Int}  {σ : Mem} {Q : Int → Mem → Prop} (h : ((0 ≤ x1) ∧ (((x1 < 4) ∧ (((0 ≤ x2) ∧ (((x2 < 5) ∧ (((0 ≤ x3) ∧ (((x3 < 5) ∧ (((0 ≤ (25 * x1 + 5 * x2 + x3)) ∧ ((((25 * x1 + 5 * x2 + x3) < 100) ∧ (Q (σ 16 ((25 * x1 + 5 * x2 + x3)).toNat) (mu σ 16 ((25 * x1 + 5 * x2 + x3)).toNat x4)))))))))))))))))) : CM mX9_changeLoad [.inr 14, .inl x1, .inl x2, .inl x3, .inl x4] σ Q := by
  refine CM_of_GO (by decide +kernel) rfl (Nat.le_of_ble_eq_true rfl) ?_
  show GO none mX9_changeLoad 0 [some (.inr 14), some (.inl x1), some (.inl x2), some (.inl x3), some (.inl x4), none, none] [] σ Q
  refine g_iload_n dX9_changeLoad_0 rfl rfl ?_
  refine g_iload_n dX9_changeLoad_1 rfl rfl ?_
  refine g_iload_n dX9_changeLoad_2 rfl rfl ?_
  obtain ⟨p1, h⟩ := h
  obtain ⟨p2, h⟩ := h
  obtain ⟨p3, h⟩ := h
  obtain ⟨p4, h⟩ := h
  obtain ⟨p5, h⟩ := h
  obtain ⟨p6, h⟩ := h
  refine g_invSI (as := [.inl x1, .inl x2, .inl x3]) (rest := []) okX9_loadAt rfl mlX9_50 rfl ⟨Nat.le_of_ble_eq_true rfl, Nat.le_of_ble_eq_true rfl⟩ (Nat.le_of_ble_eq_true rfl) rfl dX9_changeLoad_3 (c_X9_loadAt p1 p2 p3 p4 p5 p6) (Or.inl rfl) (fun v7 σ8 e9 => ?_)
  obtain ⟨e9a, e9b⟩ := e9; subst v7; subst σ8
  refine g_istore (ls' := [some (.inr 14), some (.inl x1), some (.inl x2), some (.inl x3), some (.inl x4), some (.inl (25 * x1 + 5 * x2 + x3)), none]) dX9_changeLoad_6 (by decide) rfl ?_
  refine g_aload_n dX9_changeLoad_8 rfl rfl ?_
  refine g_getR (r' := 15) flX9_14 (by decide) rfl (by decide) rfl dX9_changeLoad_9 ?_
  refine g_iload dX9_changeLoad_12 rfl ?_
  obtain ⟨p10, h⟩ := h
  obtain ⟨p11, h⟩ := h
  refine g_invVI (as := [.inl (25 * x1 + 5 * x2 + x3)]) (rest := []) okX7_get mlX9_54 (by decide) rfl ⟨_, _, rfl⟩ rfl ⟨Nat.le_of_ble_eq_true rfl, Nat.le_of_ble_eq_true rfl⟩ (Nat.le_of_ble_eq_true rfl) rfl dX9_changeLoad_14 (c_X7_get ⟨by decide, by decide, rfl, rfl, rfl⟩ p10 p11) (Or.inl rfl) (fun v12 σ13 e14 => ?_)
  obtain ⟨e14a, e14b⟩ := e14; subst v12; subst σ13
  refine g_istore (ls' := [some (.inr 14), some (.inl x1), some (.inl x2), some (.inl x3), some (.inl x4), some (.inl (25 * x1 + 5 * x2 + x3)), some (.inl (σ 16 ((25 * x1 + 5 * x2 + x3)).toNat))]) dX9_changeLoad_17 (by decide) rfl ?_
  refine g_aload_n dX9_changeLoad_19 rfl rfl ?_
  refine g_getR (r' := 15) flX9_14 (by decide) rfl (by decide) rfl dX9_changeLoad_20 ?_
  refine g_iload dX9_changeLoad_23 rfl ?_
  refine g_iload dX9_changeLoad_25 rfl ?_
  refine g_invVV (as := [.inl (25 * x1 + 5 * x2 + x3), .inl x4]) (rest := []) okX7_set mlX9_46 (by decide) rfl ⟨_, _, rfl⟩ rfl ⟨Nat.le_of_ble_eq_true rfl, Nat.le_of_ble_eq_true rfl⟩ (Nat.le_of_ble_eq_true rfl) rfl dX9_changeLoad_27 (c_X7_set ⟨by decide, by decide, rfl, rfl, rfl⟩ p10 p11) rfl (fun σ16 e17 => ?_)
  subst σ16
  refine g_iload dX9_changeLoad_30 rfl ?_
  exact g_ireturn rfl dX9_changeLoad_32 h
set_option maxRecDepth 100000 in
theorem rX9_bothWays_0 {x1 x2 x3 : Int}  {σ : Mem} {Q : Int → Mem → Prop} (h : ((0 ≤ x1) ∧ (((x1 < 4) ∧ (((0 ≤ x2) ∧ (((x2 < 5) ∧ (((0 ≤ x3) ∧ (((x3 < 5) ∧ (((0 ≤ (25 * x1 + 5 * x2 + x3)) ∧ ((((25 * x1 + 5 * x2 + x3) < 100) ∧ (((0 ≤ (25 * x1 + 5 * x3 + x2)) ∧ ((((25 * x1 + 5 * x3 + x2) < 100) ∧ (((inR ((σ 16 ((25 * x1 + 5 * x2 + x3)).toNat) + (σ 16 ((25 * x1 + 5 * x3 + x2)).toNat))) ∧ (Q ((σ 16 ((25 * x1 + 5 * x2 + x3)).toNat) + (σ 16 ((25 * x1 + 5 * x3 + x2)).toNat)) σ))))))))))))))))))))))) : CM mX9_bothWays [.inr 14, .inl x1, .inl x2, .inl x3] σ Q := by
  refine CM_of_GO (by decide +kernel) rfl (Nat.le_of_ble_eq_true rfl) ?_
  show GO none mX9_bothWays 0 [some (.inr 14), some (.inl x1), some (.inl x2), some (.inl x3)] [] σ Q
  refine g_aload_n dX9_bothWays_0 rfl rfl ?_
  refine g_getR (r' := 15) flX9_14 (by decide) rfl (by decide) rfl dX9_bothWays_1 ?_
  refine g_iload_n dX9_bothWays_4 rfl rfl ?_
  refine g_iload_n dX9_bothWays_5 rfl rfl ?_
  refine g_iload_n dX9_bothWays_6 rfl rfl ?_
  obtain ⟨p1, h⟩ := h
  obtain ⟨p2, h⟩ := h
  obtain ⟨p3, h⟩ := h
  obtain ⟨p4, h⟩ := h
  obtain ⟨p5, h⟩ := h
  obtain ⟨p6, h⟩ := h
  refine g_invSI (as := [.inl x1, .inl x2, .inl x3]) (rest := [.inr 15]) okX9_loadAt rfl mlX9_50 rfl ⟨Nat.le_of_ble_eq_true rfl, Nat.le_of_ble_eq_true rfl⟩ (Nat.le_of_ble_eq_true rfl) rfl dX9_bothWays_7 (c_X9_loadAt p1 p2 p3 p4 p5 p6) (Or.inl rfl) (fun v7 σ8 e9 => ?_)
  obtain ⟨e9a, e9b⟩ := e9; subst v7; subst σ8
  obtain ⟨p10, h⟩ := h
  obtain ⟨p11, h⟩ := h
  refine g_invVI (as := [.inl (25 * x1 + 5 * x2 + x3)]) (rest := []) okX7_get mlX9_54 (by decide) rfl ⟨_, _, rfl⟩ rfl ⟨Nat.le_of_ble_eq_true rfl, Nat.le_of_ble_eq_true rfl⟩ (Nat.le_of_ble_eq_true rfl) rfl dX9_bothWays_10 (c_X7_get ⟨by decide, by decide, rfl, rfl, rfl⟩ p10 p11) (Or.inl rfl) (fun v12 σ13 e14 => ?_)
  obtain ⟨e14a, e14b⟩ := e14; subst v12; subst σ13
  refine g_aload_n dX9_bothWays_13 rfl rfl ?_
  refine g_getR (r' := 15) flX9_14 (by decide) rfl (by decide) rfl dX9_bothWays_14 ?_
  refine g_iload_n dX9_bothWays_17 rfl rfl ?_
  refine g_iload_n dX9_bothWays_18 rfl rfl ?_
  refine g_iload_n dX9_bothWays_19 rfl rfl ?_
  refine g_invSI (as := [.inl x1, .inl x3, .inl x2]) (rest := [.inr 15, .inl (σ 16 ((25 * x1 + 5 * x2 + x3)).toNat)]) okX9_loadAt rfl mlX9_50 rfl ⟨Nat.le_of_ble_eq_true rfl, Nat.le_of_ble_eq_true rfl⟩ (Nat.le_of_ble_eq_true rfl) rfl dX9_bothWays_20 (c_X9_loadAt p1 p2 p5 p6 p3 p4) (Or.inl rfl) (fun v15 σ16 e17 => ?_)
  obtain ⟨e17a, e17b⟩ := e17; subst v15; subst σ16
  obtain ⟨p18, h⟩ := h
  obtain ⟨p19, h⟩ := h
  refine g_invVI (as := [.inl (25 * x1 + 5 * x3 + x2)]) (rest := [.inl (σ 16 ((25 * x1 + 5 * x2 + x3)).toNat)]) okX7_get mlX9_54 (by decide) rfl ⟨_, _, rfl⟩ rfl ⟨Nat.le_of_ble_eq_true rfl, Nat.le_of_ble_eq_true rfl⟩ (Nat.le_of_ble_eq_true rfl) rfl dX9_bothWays_23 (c_X7_get ⟨by decide, by decide, rfl, rfl, rfl⟩ p18 p19) (Or.inl rfl) (fun v20 σ21 e22 => ?_)
  obtain ⟨e22a, e22b⟩ := e22; subst v20; subst σ21
  obtain ⟨p23, h⟩ := h
  refine g_iadd dX9_bothWays_26 p23 ?_
  exact g_ireturn rfl dX9_bothWays_27 h
set_option maxRecDepth 100000 in
theorem rX9_dropWish_0 {x1 : Int}  {σ : Mem} {Q : Int → Mem → Prop} (h : GO none mX9_dropWish 2 [some (.inr 14), some (.inl x1), some (.inl x1)] [] σ Q) : CM mX9_dropWish [.inr 14, .inl x1] σ Q := by
  refine CM_of_GO (by decide +kernel) rfl (Nat.le_of_ble_eq_true rfl) ?_
  show GO none mX9_dropWish 0 [some (.inr 14), some (.inl x1), none] [] σ Q
  refine g_iload_n dX9_dropWish_0 rfl rfl ?_
  refine g_istore_n (ls' := [some (.inr 14), some (.inl x1), some (.inl x1)]) dX9_dropWish_1 rfl (by decide) rfl ?_
  exact h
set_option maxRecDepth 100000 in
theorem rX9_dropWish_2 {x1 x2 : Int}  {σ : Mem} {Q : Int → Mem → Prop} (h : ((inR ((σ 14 7) - 1)) ∧ ((((σ 14 7) - 1) ≤ x2 → Q 0 (mu σ 14 7 ((σ 14 7) - 1))) ∧ (x2 < ((σ 14 7) - 1) → ((inR (x2 + 1)) ∧ (((0 ≤ (x2 + 1)) ∧ ((((x2 + 1) < 6) ∧ (((0 ≤ x2) ∧ (((x2 < 6) ∧ (GO none mX9_dropWish 2 [some (.inr 14), some (.inl x1), some (.inl (x2 + 1))] [] (mu (mu (mu (mu σ 20 (x2).toNat (σ 20 ((x2 + 1)).toNat)) 22 (x2).toNat (σ 22 ((x2 + 1)).toNat)) 24 (x2).toNat (σ 24 ((x2 + 1)).toNat)) 26 (x2).toNat (σ 26 ((x2 + 1)).toNat)) Q)))))))))))))) : GO none mX9_dropWish 2 [some (.inr 14), some (.inl x1), some (.inl x2)] [] σ Q := by
  refine g_iload_n dX9_dropWish_2 rfl rfl ?_
  refine g_aload_n dX9_dropWish_3 rfl rfl ?_
  refine g_getI flX9_39 (by decide) rfl (by decide) rfl dX9_dropWish_4 ?_
  refine g_iconst dX9_dropWish_7 (by decide) ?_
  obtain ⟨p1, h⟩ := h
  refine g_isub dX9_dropWish_8 p1 ?_
  refine g_icmp_ge (tgt := 90) dX9_dropWish_9 (by decide) (fun c2 => ?_) (fun c2 => ?_)
  · have h := h.1 c2
    refine g_aload_n dX9_dropWish_90 rfl rfl ?_
    refine g_dup dX9_dropWish_91 ?_
    refine g_getI flX9_39 (by decide) rfl (by decide) rfl dX9_dropWish_92 ?_
    refine g_iconst dX9_dropWish_95 (by decide) ?_
    refine g_isub dX9_dropWish_96 p1 ?_
    refine g_putI fpX9_39 (by decide) rfl (by decide) rfl (Or.inl rfl) dX9_dropWish_97 ?_
    exact g_return rfl dX9_dropWish_100 h
  · have h := h.2 c2
    refine g_aload_n dX9_dropWish_12 rfl rfl ?_
    refine g_getR (r' := 19) flX9_23 (by decide) rfl (by decide) rfl dX9_dropWish_13 ?_
    refine g_iload_n dX9_dropWish_16 rfl rfl ?_
    refine g_aload_n dX9_dropWish_17 rfl rfl ?_
    refine g_getR (r' := 19) flX9_23 (by decide) rfl (by decide) rfl dX9_dropWish_18 ?_
    refine g_iload_n dX9_dropWish_21 rfl rfl ?_
    refine g_iconst dX9_dropWish_22 (by decide) ?_
    obtain ⟨p3, h⟩ := h
    refine g_iadd dX9_dropWish_23 p3 ?_
    obtain ⟨p4, h⟩ := h
    obtain ⟨p5, h⟩ := h
    refine g_invVI (as := [.inl (x2 + 1)]) (rest := [.inl x2, .inr 19]) okX7_get mlX9_54 (by decide) rfl ⟨_, _, rfl⟩ rfl ⟨Nat.le_of_ble_eq_true rfl, Nat.le_of_ble_eq_true rfl⟩ (Nat.le_of_ble_eq_true rfl) rfl dX9_dropWish_24 (c_X7_get ⟨by decide, by decide, rfl, rfl, rfl⟩ p4 p5) (Or.inl rfl) (fun v6 σ7 e8 => ?_)
    obtain ⟨e8a, e8b⟩ := e8; subst v6; subst σ7
    obtain ⟨p9, h⟩ := h
    obtain ⟨p10, h⟩ := h
    refine g_invVV (as := [.inl x2, .inl (σ 20 ((x2 + 1)).toNat)]) (rest := []) okX7_set mlX9_46 (by decide) rfl ⟨_, _, rfl⟩ rfl ⟨Nat.le_of_ble_eq_true rfl, Nat.le_of_ble_eq_true rfl⟩ (Nat.le_of_ble_eq_true rfl) rfl dX9_dropWish_27 (c_X7_set ⟨by decide, by decide, rfl, rfl, rfl⟩ p9 p10) rfl (fun σ12 e13 => ?_)
    subst σ12
    refine g_aload_n dX9_dropWish_30 rfl rfl ?_
    refine g_getR (r' := 21) flX9_26 (by decide) rfl (by decide) rfl dX9_dropWish_31 ?_
    refine g_iload_n dX9_dropWish_34 rfl rfl ?_
    refine g_aload_n dX9_dropWish_35 rfl rfl ?_
    refine g_getR (r' := 21) flX9_26 (by decide) rfl (by decide) rfl dX9_dropWish_36 ?_
    refine g_iload_n dX9_dropWish_39 rfl rfl ?_
    refine g_iconst dX9_dropWish_40 (by decide) ?_
    refine g_iadd dX9_dropWish_41 p3 ?_
    refine g_invVI (as := [.inl (x2 + 1)]) (rest := [.inl x2, .inr 21]) okX7_get mlX9_54 (by decide) rfl ⟨_, _, rfl⟩ rfl ⟨Nat.le_of_ble_eq_true rfl, Nat.le_of_ble_eq_true rfl⟩ (Nat.le_of_ble_eq_true rfl) rfl dX9_dropWish_42 (c_X7_get ⟨by decide, by decide, rfl, rfl, rfl⟩ p4 p5) (Or.inl rfl) (fun v14 σ15 e16 => ?_)
    obtain ⟨e16a, e16b⟩ := e16; subst v14; subst σ15
    refine g_top (w := (σ 22 ((x2 + 1)).toNat)) rfl ?_
    refine g_invVV (as := [.inl x2, .inl (σ 22 ((x2 + 1)).toNat)]) (rest := []) okX7_set mlX9_46 (by decide) rfl ⟨_, _, rfl⟩ rfl ⟨Nat.le_of_ble_eq_true rfl, Nat.le_of_ble_eq_true rfl⟩ (Nat.le_of_ble_eq_true rfl) rfl dX9_dropWish_45 (c_X7_set ⟨by decide, by decide, rfl, rfl, rfl⟩ p9 p10) rfl (fun σ18 e19 => ?_)
    subst σ18
    refine g_aload_n dX9_dropWish_48 rfl rfl ?_
    refine g_getR (r' := 23) flX9_29 (by decide) rfl (by decide) rfl dX9_dropWish_49 ?_
    refine g_iload_n dX9_dropWish_52 rfl rfl ?_
    refine g_aload_n dX9_dropWish_53 rfl rfl ?_
    refine g_getR (r' := 23) flX9_29 (by decide) rfl (by decide) rfl dX9_dropWish_54 ?_
    refine g_iload_n dX9_dropWish_57 rfl rfl ?_
    refine g_iconst dX9_dropWish_58 (by decide) ?_
    refine g_iadd dX9_dropWish_59 p3 ?_
    refine g_invVI (as := [.inl (x2 + 1)]) (rest := [.inl x2, .inr 23]) okX7_get mlX9_54 (by decide) rfl ⟨_, _, rfl⟩ rfl ⟨Nat.le_of_ble_eq_true rfl, Nat.le_of_ble_eq_true rfl⟩ (Nat.le_of_ble_eq_true rfl) rfl dX9_dropWish_60 (c_X7_get ⟨by decide, by decide, rfl, rfl, rfl⟩ p4 p5) (Or.inl rfl) (fun v20 σ21 e22 => ?_)
    obtain ⟨e22a, e22b⟩ := e22; subst v20; subst σ21
    refine g_top (w := (σ 24 ((x2 + 1)).toNat)) rfl ?_
    refine g_invVV (as := [.inl x2, .inl (σ 24 ((x2 + 1)).toNat)]) (rest := []) okX7_set mlX9_46 (by decide) rfl ⟨_, _, rfl⟩ rfl ⟨Nat.le_of_ble_eq_true rfl, Nat.le_of_ble_eq_true rfl⟩ (Nat.le_of_ble_eq_true rfl) rfl dX9_dropWish_63 (c_X7_set ⟨by decide, by decide, rfl, rfl, rfl⟩ p9 p10) rfl (fun σ24 e25 => ?_)
    subst σ24
    refine g_aload_n dX9_dropWish_66 rfl rfl ?_
    refine g_getR (r' := 25) flX9_32 (by decide) rfl (by decide) rfl dX9_dropWish_67 ?_
    refine g_iload_n dX9_dropWish_70 rfl rfl ?_
    refine g_aload_n dX9_dropWish_71 rfl rfl ?_
    refine g_getR (r' := 25) flX9_32 (by decide) rfl (by decide) rfl dX9_dropWish_72 ?_
    refine g_iload_n dX9_dropWish_75 rfl rfl ?_
    refine g_iconst dX9_dropWish_76 (by decide) ?_
    refine g_iadd dX9_dropWish_77 p3 ?_
    refine g_invVI (as := [.inl (x2 + 1)]) (rest := [.inl x2, .inr 25]) okX7_get mlX9_54 (by decide) rfl ⟨_, _, rfl⟩ rfl ⟨Nat.le_of_ble_eq_true rfl, Nat.le_of_ble_eq_true rfl⟩ (Nat.le_of_ble_eq_true rfl) rfl dX9_dropWish_78 (c_X7_get ⟨by decide, by decide, rfl, rfl, rfl⟩ p4 p5) (Or.inl rfl) (fun v26 σ27 e28 => ?_)
    obtain ⟨e28a, e28b⟩ := e28; subst v26; subst σ27
    refine g_top (w := (σ 26 ((x2 + 1)).toNat)) rfl ?_
    refine g_invVV (as := [.inl x2, .inl (σ 26 ((x2 + 1)).toNat)]) (rest := []) okX7_set mlX9_46 (by decide) rfl ⟨_, _, rfl⟩ rfl ⟨Nat.le_of_ble_eq_true rfl, Nat.le_of_ble_eq_true rfl⟩ (Nat.le_of_ble_eq_true rfl) rfl dX9_dropWish_81 (c_X7_set ⟨by decide, by decide, rfl, rfl, rfl⟩ p9 p10) rfl (fun σ30 e31 => ?_)
    subst σ30
    refine g_iinc (ls' := [some (.inr 14), some (.inl x1), some (.inl (x2 + 1))]) dX9_dropWish_84 (by decide) rfl p3 rfl ?_
    refine g_goto (tgt := 2) dX9_dropWish_87 (by decide) ?_
    exact h
set_option maxRecDepth 100000 in
theorem rX9_movedWeight_0 {k1 : Nat} (hk1 : isSeats k1) {k2 : Nat} (hk2 : isSeats k2) {σ : Mem} {Q : Int → Mem → Prop} (h : GO none mX9_movedWeight 5 [some (.inr 14), some (.inr k1), some (.inr k2), some (.inl 0), some (.inl 0)] [] σ Q) : CM mX9_movedWeight [.inr 14, .inr k1, .inr k2] σ Q := by
  refine CM_of_GO (by decide +kernel) rfl (Nat.le_of_ble_eq_true rfl) ?_
  show GO none mX9_movedWeight 0 [some (.inr 14), some (.inr k1), some (.inr k2), none, none] [] σ Q
  refine g_iconst dX9_movedWeight_0 (by decide) ?_
  refine g_istore_n (ls' := [some (.inr 14), some (.inr k1), some (.inr k2), some (.inl 0), none]) dX9_movedWeight_1 rfl (by decide) rfl ?_
  refine g_iconst dX9_movedWeight_2 (by decide) ?_
  refine g_istore (ls' := [some (.inr 14), some (.inr k1), some (.inr k2), some (.inl 0), some (.inl 0)]) dX9_movedWeight_3 (by decide) rfl ?_
  exact h
set_option maxRecDepth 100000 in
theorem rX9_movedWeight_5 {x3 x4 : Int} {k1 : Nat} (hk1 : isSeats k1) {k2 : Nat} (hk2 : isSeats k2) {σ : Mem} {Q : Int → Mem → Prop} (h : ((σ 14 6) ≤ x4 → Q x3 σ) ∧ (x4 < (σ 14 6) → ((0 ≤ x4) ∧ (((x4 < 5) ∧ (((σ (k1 + 2) (x4).toNat) = (σ (k2 + 2) (x4).toNat) → ((inR (x4 + 1)) ∧ (GO none mX9_movedWeight 5 [some (.inr 14), some (.inr k1), some (.inr k2), some (.inl x3), some (.inl (x4 + 1))] [] σ Q))) ∧ ((σ (k1 + 2) (x4).toNat) ≠ (σ (k2 + 2) (x4).toNat) → ((inR (x3 + (σ 18 (x4).toNat))) ∧ (((inR (x4 + 1)) ∧ (GO none mX9_movedWeight 5 [some (.inr 14), some (.inr k1), some (.inr k2), some (.inl (x3 + (σ 18 (x4).toNat))), some (.inl (x4 + 1))] [] σ Q))))))))))) : GO none mX9_movedWeight 5 [some (.inr 14), some (.inr k1), some (.inr k2), some (.inl x3), some (.inl x4)] [] σ Q := by
  refine g_iload dX9_movedWeight_5 rfl ?_
  refine g_aload_n dX9_movedWeight_7 rfl rfl ?_
  refine g_getI flX9_35 (by decide) rfl (by decide) rfl dX9_movedWeight_8 ?_
  refine g_icmp_ge (tgt := 47) dX9_movedWeight_11 (by decide) (fun c1 => ?_) (fun c1 => ?_)
  · have h := h.1 c1
    refine g_iload_n dX9_movedWeight_47 rfl rfl ?_
    exact g_ireturn rfl dX9_movedWeight_48 h
  · have h := h.2 c1
    refine g_aload_n dX9_movedWeight_14 rfl rfl ?_
    refine g_iload dX9_movedWeight_15 rfl ?_
    obtain ⟨p2, h⟩ := h
    obtain ⟨p3, h⟩ := h
    refine g_invVI (as := [.inl x4]) (rest := []) okX8_at mlX9_58 hk1.1 hk1.2.1 ⟨_, _, rfl⟩ rfl ⟨Nat.le_of_ble_eq_true rfl, Nat.le_of_ble_eq_true rfl⟩ (Nat.le_of_ble_eq_true rfl) rfl dX9_movedWeight_17 (c_X8_at hk1 p2 p3) (Or.inl rfl) (fun v4 σ5 e6 => ?_)
    obtain ⟨e6a, e6b⟩ := e6; subst v4; subst σ5
    refine g_aload_n dX9_movedWeight_20 rfl rfl ?_
    refine g_iload dX9_movedWeight_21 rfl ?_
    refine g_invVI (as := [.inl x4]) (rest := [.inl (σ (k1 + 2) (x4).toNat)]) okX8_at mlX9_58 hk2.1 hk2.2.1 ⟨_, _, rfl⟩ rfl ⟨Nat.le_of_ble_eq_true rfl, Nat.le_of_ble_eq_true rfl⟩ (Nat.le_of_ble_eq_true rfl) rfl dX9_movedWeight_23 (c_X8_at hk2 p2 p3) (Or.inl rfl) (fun v7 σ8 e9 => ?_)
    obtain ⟨e9a, e9b⟩ := e9; subst v7; subst σ8
    refine g_icmp_eq (tgt := 41) dX9_movedWeight_26 (by decide) (fun c10 => ?_) (fun c10 => ?_)
    · have h := h.1 c10
      obtain ⟨p11, h⟩ := h
      refine g_iinc (ls' := [some (.inr 14), some (.inr k1), some (.inr k2), some (.inl x3), some (.inl (x4 + 1))]) dX9_movedWeight_41 (by decide) rfl p11 rfl ?_
      refine g_goto (tgt := 5) dX9_movedWeight_44 (by decide) ?_
      exact h
    · have h := h.2 c10
      refine g_iload_n dX9_movedWeight_29 rfl rfl ?_
      refine g_aload_n dX9_movedWeight_30 rfl rfl ?_
      refine g_getR (r' := 17) flX9_20 (by decide) rfl (by decide) rfl dX9_movedWeight_31 ?_
      refine g_iload dX9_movedWeight_34 rfl ?_
      refine g_invVI (as := [.inl x4]) (rest := [.inl x3]) okX7_get mlX9_54 (by decide) rfl ⟨_, _, rfl⟩ rfl ⟨Nat.le_of_ble_eq_true rfl, Nat.le_of_ble_eq_true rfl⟩ (Nat.le_of_ble_eq_true rfl) rfl dX9_movedWeight_36 (c_X7_get ⟨by decide, by decide, rfl, rfl, rfl⟩ p2 p3) (Or.inl rfl) (fun v12 σ13 e14 => ?_)
      obtain ⟨e14a, e14b⟩ := e14; subst v12; subst σ13
      obtain ⟨p15, h⟩ := h
      refine g_iadd dX9_movedWeight_39 p15 ?_
      refine g_istore_n (ls' := [some (.inr 14), some (.inr k1), some (.inr k2), some (.inl (x3 + (σ 18 (x4).toNat))), some (.inl x4)]) dX9_movedWeight_40 rfl (by decide) rfl ?_
      obtain ⟨p16, h⟩ := h
      refine g_iinc (ls' := [some (.inr 14), some (.inr k1), some (.inr k2), some (.inl (x3 + (σ 18 (x4).toNat))), some (.inl (x4 + 1))]) dX9_movedWeight_41 (by decide) rfl p16 rfl ?_
      refine g_goto (tgt := 5) dX9_movedWeight_44 (by decide) ?_
      exact h
set_option maxRecDepth 100000 in
theorem rX2_cellsOf_0 {x1 : Int}  {σ : Mem} {Q : Int → Mem → Prop} (h : GO none mX2_cellsOf 4 [some (.inr 1), some (.inl x1), some (.inl 0), some (.inl 0)] [] σ Q) : CM mX2_cellsOf [.inr 1, .inl x1] σ Q := by
  refine CM_of_GO (by decide +kernel) rfl (Nat.le_of_ble_eq_true rfl) ?_
  show GO none mX2_cellsOf 0 [some (.inr 1), some (.inl x1), none, none] [] σ Q
  refine g_iconst dX2_cellsOf_0 (by decide) ?_
  refine g_istore_n (ls' := [some (.inr 1), some (.inl x1), some (.inl 0), none]) dX2_cellsOf_1 rfl (by decide) rfl ?_
  refine g_iconst dX2_cellsOf_2 (by decide) ?_
  refine g_istore_n (ls' := [some (.inr 1), some (.inl x1), some (.inl 0), some (.inl 0)]) dX2_cellsOf_3 rfl (by decide) rfl ?_
  exact h
set_option maxRecDepth 100000 in
theorem rX2_cellsOf_4 {x1 x2 x3 : Int}  {σ : Mem} {Q : Int → Mem → Prop} (h : (36 ≤ x3 → Q x2 σ) ∧ (x3 < 36 → ((0 ≤ x3) ∧ (((σ 3 (x3).toNat) ≠ x1 → ((inR (x3 + 1)) ∧ (GO none mX2_cellsOf 4 [some (.inr 1), some (.inl x1), some (.inl x2), some (.inl (x3 + 1))] [] σ Q))) ∧ ((σ 3 (x3).toNat) = x1 → ((inR (x2 + 1)) ∧ (((inR (x3 + 1)) ∧ (GO none mX2_cellsOf 4 [some (.inr 1), some (.inl x1), some (.inl (x2 + 1)), some (.inl (x3 + 1))] [] σ Q))))))))) : GO none mX2_cellsOf 4 [some (.inr 1), some (.inl x1), some (.inl x2), some (.inl x3)] [] σ Q := by
  refine g_iload_n dX2_cellsOf_4 rfl rfl ?_
  refine g_bipush dX2_cellsOf_5 (by decide) (by decide) ?_
  refine g_icmp_ge (tgt := 31) dX2_cellsOf_7 (by decide) (fun c1 => ?_) (fun c1 => ?_)
  · have h := h.1 c1
    refine g_iload_n dX2_cellsOf_31 rfl rfl ?_
    exact g_ireturn rfl dX2_cellsOf_32 h
  · have h := h.2 c1
    refine g_aload_n dX2_cellsOf_10 rfl rfl ?_
    refine g_getR (r' := 2) flX2_14 (by decide) rfl (by decide) rfl dX2_cellsOf_11 ?_
    refine g_iload_n dX2_cellsOf_14 rfl rfl ?_
    obtain ⟨p2, h⟩ := h
    refine g_invVI (as := [.inl x3]) (rest := []) okX7_get mlX2_45 (by decide) rfl ⟨_, _, rfl⟩ rfl ⟨Nat.le_of_ble_eq_true rfl, Nat.le_of_ble_eq_true rfl⟩ (Nat.le_of_ble_eq_true rfl) rfl dX2_cellsOf_15 (c_X7_get ⟨by decide, by decide, rfl, rfl, rfl⟩ p2 c1) (Or.inl rfl) (fun v3 σ4 e5 => ?_)
    obtain ⟨e5a, e5b⟩ := e5; subst v3; subst σ4
    refine g_iload_n dX2_cellsOf_18 rfl rfl ?_
    refine g_icmp_ne (tgt := 25) dX2_cellsOf_19 (by decide) (fun c6 => ?_) (fun c6 => ?_)
    · have h := h.1 c6
      obtain ⟨p7, h⟩ := h
      refine g_iinc (ls' := [some (.inr 1), some (.inl x1), some (.inl x2), some (.inl (x3 + 1))]) dX2_cellsOf_25 (by decide) rfl p7 rfl ?_
      refine g_goto (tgt := 4) dX2_cellsOf_28 (by decide) ?_
      exact h
    · have h := h.2 c6
      obtain ⟨p8, h⟩ := h
      refine g_iinc (ls' := [some (.inr 1), some (.inl x1), some (.inl (x2 + 1)), some (.inl x3)]) dX2_cellsOf_22 (by decide) rfl p8 rfl ?_
      obtain ⟨p9, h⟩ := h
      refine g_iinc (ls' := [some (.inr 1), some (.inl x1), some (.inl (x2 + 1)), some (.inl (x3 + 1))]) dX2_cellsOf_25 (by decide) rfl p9 rfl ?_
      refine g_goto (tgt := 4) dX2_cellsOf_28 (by decide) ?_
      exact h
theorem c_X9_areTwo {σ : Mem} {a b : Int} : CM mX9_areTwo [.inr 14, .inl a, .inl b] σ (fun v σ1 => v = (if (0 ≤ a ∧ a < σ 14 6) ∧ (0 ≤ b ∧ b < σ 14 6) ∧ a ≠ b then 1 else 0) ∧ σ1 = σ) := by
  refine rX9_areTwo_0 ⟨fun h => ⟨?_, rfl⟩, fun h => ⟨fun h1 => ⟨?_, rfl⟩, fun h1 => ⟨fun h2 => ⟨?_, rfl⟩, fun h2 => ⟨?_, rfl⟩⟩⟩⟩ <;> first
    | (rw [if_pos]; omega)
    | (rw [if_neg]; omega)
theorem c_X9_changeLoad {σ : Mem} {y a b w : Int} (h1 : 0 ≤ y) (h2 : y < 4) (h3 : 0 ≤ a) (h4 : a < 5) (h5 : 0 ≤ b) (h6 : b < 5) : CM mX9_changeLoad [.inr 14, .inl y, .inl a, .inl b, .inl w] σ (fun v σ1 => v = σ 16 (25 * y + 5 * a + b).toNat ∧ σ1 = mu σ 16 (25 * y + 5 * a + b).toNat w) :=
  rX9_changeLoad_0 ⟨h1, h2, h3, h4, h5, h6, by omega, by omega, rfl, rfl⟩
theorem c_X9_bothWays {σ : Mem} {y a b : Int} (h1 : 0 ≤ y) (h2 : y < 4) (h3 : 0 ≤ a) (h4 : a < 5) (h5 : 0 ≤ b) (h6 : b < 5) (h7 : inR (σ 16 (25 * y + 5 * a + b).toNat + σ 16 (25 * y + 5 * b + a).toNat)) : CM mX9_bothWays [.inr 14, .inl y, .inl a, .inl b] σ (fun v σ1 => v = σ 16 (25 * y + 5 * a + b).toNat + σ 16 (25 * y + 5 * b + a).toNat ∧ σ1 = σ) :=
  rX9_bothWays_0 ⟨h1, h2, h3, h4, h5, h6, by omega, by omega, by omega, by omega, h7, rfl, rfl⟩
/-- the row without the place g, up to the place w -/
def shF (f : Nat → Int) (g w : Nat) : Nat → Int := fun i => if g ≤ i ∧ i < w then f (i + 1) else f i
theorem shF_step {f : Nat → Int} {g w : Nat} (h : g ≤ w) : fup (shF f g w) w (shF f g w (w + 1)) = shF f g (w + 1) := by
  funext i
  unfold fup shF
  by_cases e : i = w
  · subst e
    rw [if_pos rfl, if_neg (by omega), if_pos (by omega)]
  · rw [if_neg e]
    by_cases e2 : g ≤ i ∧ i < w
    · rw [if_pos e2, if_pos (by omega)]
    · rw [if_neg e2, if_neg (by omega)]
theorem shF_0 {f : Nat → Int} {g : Nat} : shF f g g = f := by
  funext i
  unfold shF
  rw [if_neg (by omega)]
def dropP (g c : Nat) (σ σ1 : Mem) : Prop := σ1 20 = shF (σ 20) g (c - 1) ∧ σ1 22 = shF (σ 22) g (c - 1) ∧ σ1 24 = shF (σ 24) g (c - 1) ∧ σ1 26 = shF (σ 26) g (c - 1) ∧ σ1 14 = fup (σ 14) 7 ((c : Int) - 1) ∧ Same [14, 20, 22, 24, 26] σ σ1
theorem mu_f (σ : Mem) (k j : Nat) (v : Int) : mu σ k j v k = fup (σ k) j v := by rw [mu_setA, setA_eq]
theorem c_X9_dropWish {σ : Mem} {x : Int} {g c : Nat} (hc : σ 14 7 = c) (h6 : c ≤ 6) (hg : g < c) (ex : x = g) : CM mX9_dropWish [.inr 14, .inl x] σ (fun _ σ1 => dropP g c σ σ1) := by
  subst ex
  have key : ∀ (d w : Nat) (σ0 : Mem), w + d = c - 1 → g ≤ w → σ0 20 = shF (σ 20) g w → σ0 22 = shF (σ 22) g w → σ0 24 = shF (σ 24) g w → σ0 26 = shF (σ 26) g w → Same [20, 22, 24, 26] σ σ0 → GO none mX9_dropWish 2 [some (.inr 14), some (.inl (g : Int)), some (.inl (w : Int))] [] σ0 (fun _ σ1 => dropP g c σ σ1) := by
    intro d
    induction d with
    | zero =>
      intro w σ0 hd hw h1 h2 h3 h4 hS
      have e14 : σ0 14 = σ 14 := hS 14 (by decide)
      have e7 : σ0 14 7 = c := by rw [e14, hc]
      refine rX9_dropWish_2 ⟨by omega, fun _ => ?_, fun h => by omega⟩
      rw [e7]
      have ew : w = c - 1 := by omega
      subst ew
      refine ⟨by rw [mu_nef (by decide)]; exact h1, by rw [mu_nef (by decide)]; exact h2, by rw [mu_nef (by decide)]; exact h3, by rw [mu_nef (by decide)]; exact h4, by rw [mu_f, e14], (hS.wk (by decide)).tr (Same.mu (by decide))⟩
    | succ d ih =>
      intro w σ0 hd hw h1 h2 h3 h4 hS
      have e14 : σ0 14 = σ 14 := hS 14 (by decide)
      have e7 : σ0 14 7 = c := by rw [e14, hc]
      refine rX9_dropWish_2 ⟨by omega, fun h => by omega, fun _ => ⟨by omega, by omega, by omega, by omega, by omega, ?_⟩⟩
      rw [Int.toNat_natCast, show ((w : Int) + 1).toNat = w + 1 by omega]
      refine ih (w + 1) _ (by omega) (by omega) ?_ ?_ ?_ ?_ ?_
      · rw [mu_nef (by decide), mu_nef (by decide), mu_nef (by decide), mu_f, h1, shF_step hw]
      · rw [mu_nef (by decide), mu_nef (by decide), mu_f, mu_nef (by decide), h2, shF_step hw]
      · rw [mu_nef (by decide), mu_f, mu_nef (by decide), mu_nef (by decide), h3, shF_step hw]
      · rw [mu_f, mu_nef (by decide), mu_nef (by decide), mu_nef (by decide), h4, shF_step hw]
      · exact (((hS.tr (Same.mu (by decide))).tr (Same.mu (by decide))).tr (Same.mu (by decide))).tr (Same.mu (by decide))
  refine rX9_dropWish_0 ?_
  exact key (c - 1 - g) g σ (by omega) (Nat.le_refl _) shF_0.symm shF_0.symm shF_0.symm shF_0.symm Same.rf
/-- the weights of the shops that lie elsewhere -/
def mvW (w : Nat → Int) (f g : Nat → Int) (m : Nat) : Int := sumF (fun i => if f i = g i then 0 else w i) m
theorem mvW_bd {w f g : Nat → Int} {m : Nat} (h : ∀ i, i < m → 0 ≤ w i ∧ w i ≤ 50) : 0 ≤ mvW w f g m ∧ mvW w f g m ≤ m * 50 := by
  refine sumF_bd (fun i hi => ?_)
  have := h i hi
  by_cases e : f i = g i
  · simp only [if_pos e]; omega
  · simp only [if_neg e]; omega
theorem c_X9_movedWeight {k j m : Nat} {σ : Mem} (hk : isSeats k) (hj : isSeats j) (hm : σ 14 6 = m) (h5 : m ≤ 5) (hw : ∀ i, i < m → 0 ≤ σ 18 i ∧ σ 18 i ≤ 50) : CM mX9_movedWeight [.inr 14, .inr k, .inr j] σ (fun v σ1 => v = mvW (σ 18) (σ (k + 2)) (σ (j + 2)) m ∧ σ1 = σ) := by
  have key : ∀ (d i : Nat), i + d = m → GO none mX9_movedWeight 5 [some (.inr 14), some (.inr k), some (.inr j), some (.inl (mvW (σ 18) (σ (k + 2)) (σ (j + 2)) i)), some (.inl (i : Int))] [] σ (fun v σ1 => v = mvW (σ 18) (σ (k + 2)) (σ (j + 2)) m ∧ σ1 = σ) := by
    intro d
    induction d with
    | zero =>
      intro i hd
      refine rX9_movedWeight_5 hk hj ⟨fun h => ⟨by rw [show i = m by omega], rfl⟩, fun h => by omega⟩
    | succ d ih =>
      intro i hd
      have hb := mvW_bd (w := σ 18) (f := σ (k + 2)) (g := σ (j + 2)) (m := i) (fun i hi => hw i (by omega))
      have h1 := hw i (by omega)
      have h2 := ih (i + 1) (by omega)
      unfold mvW at h2 hb ⊢
      rw [sumF_succ] at h2
      refine rX9_movedWeight_5 hk hj ⟨fun h => by omega, fun h => ⟨by omega, by omega, fun e => ?_, fun e => ?_⟩⟩
      · rw [Int.toNat_natCast] at e
        rw [if_pos e, Int.add_zero] at h2
        exact ⟨by omega, h2⟩
      · rw [Int.toNat_natCast] at e
        rw [if_neg e] at h2
        rw [Int.toNat_natCast]
        exact ⟨by omega, by omega, h2⟩
  exact rX9_movedWeight_0 hk hj (key m 0 (by omega))
/-- how many of the first n places hold x -/
def cntF (f : Nat → Int) (x : Int) (n : Nat) : Int := sumF (fun i => if f i = x then 1 else 0) n
theorem cntF_bd (f : Nat → Int) (x : Int) (n : Nat) : 0 ≤ cntF f x n ∧ cntF f x n ≤ n := by
  have := sumF_bd (f := fun i => if f i = x then 1 else 0) (c := 1) (n := n) (fun i hi => by split <;> omega)
  unfold cntF
  omega
theorem c_X2_cellsOf {x : Int} {σ : Mem} : CM mX2_cellsOf [.inr 1, .inl x] σ (fun v σ1 => v = cntF (σ 3) x 36 ∧ σ1 = σ) := by
  have key : ∀ (d i : Nat), i + d = 36 → GO none mX2_cellsOf 4 [some (.inr 1), some (.inl x), some (.inl (cntF (σ 3) x i)), some (.inl (i : Int))] [] σ (fun v σ1 => v = cntF (σ 3) x 36 ∧ σ1 = σ) := by
    intro d
    induction d with
    | zero =>
      intro i hd
      exact rX2_cellsOf_4 ⟨fun h => ⟨by rw [show i = 36 by omega], rfl⟩, fun h => by omega⟩
    | succ d ih =>
      intro i hd
      have hb := cntF_bd (σ 3) x i
      have h2 := ih (i + 1) (by omega)
      unfold cntF at h2 hb ⊢
      rw [sumF_succ] at h2
      refine rX2_cellsOf_4 ⟨fun h => by omega, fun h => ⟨by omega, fun e => ?_, fun e => ?_⟩⟩
      · rw [Int.toNat_natCast] at e
        rw [if_neg e, Int.add_zero] at h2
        exact ⟨by omega, h2⟩
      · rw [Int.toNat_natCast] at e
        rw [if_pos e] at h2
        exact ⟨by omega, by omega, h2⟩
  exact rX2_cellsOf_0 (key 36 0 rfl)
