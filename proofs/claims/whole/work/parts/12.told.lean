/-! ===== places: told, read, copied, compared ===== -/
theorem seats_ne {a b : Nat} (ha : isSeats a) (hb : isSeats b) : a ≠ b + 2 := by
  intro h
  have h1 := ha.2.1
  have h2 : shp (b + 2) = (12, 5) := hb.2.2.2.2.2.2.2.2
  rw [h, h2] at h1
  cases h1
def isPl (m n : Nat) (p : List Nat) : Prop := p.length = m ∧ (∀ s ∈ p, s < n) ∧ p.Nodup
def tld : List Nat → Int
  | [] => 0
  | s :: p => (s : Int) + 6 * tld p
theorem tld_nn : ∀ p, 0 ≤ tld p
  | [] => Int.le_refl _
  | s :: p => by have := tld_nn p; unfold tld; omega
theorem tld_lt : ∀ (p : List Nat), (∀ s ∈ p, s < 6) → tld p < (6 ^ p.length : Nat)
  | [], _ => by decide
  | s :: p, h => by
    have h1 := List.forall_mem_cons.mp h
    have := tld_lt p h1.2
    unfold tld
    rw [List.length_cons, Nat.pow_succ]
    omega
theorem pow6_le {m : Nat} (h : m ≤ 5) : 6 ^ m ≤ 7776 := by
  rcases (show m = 0 ∨ m = 1 ∨ m = 2 ∨ m = 3 ∨ m = 4 ∨ m = 5 by omega) with rfl | rfl | rfl | rfl | rfl | rfl <;> decide
set_option maxRecDepth 100000 in
theorem rX8_addShop_0 {x1 : Int} {k0 : Nat} (hk0 : isSeats k0) {σ : Mem} {Q : Int → Mem → Prop} (h : ((inR ((σ k0 1) + 1)) ∧ (((inR (((σ k0 1) + 1) - 1)) ∧ (CM mX8_seatBehind [.inr k0, .inl (((σ k0 1) + 1) - 1), .inl (-1), .inl x1] (mu σ k0 1 ((σ k0 1) + 1)) (fun v3 σ4 => Q 0 σ4)))))) : CM mX8_addShop [.inr k0, .inl x1] σ Q := by
  refine CM_of_GO (by decide +kernel) rfl (Nat.le_of_ble_eq_true rfl) ?_
  show GO none mX8_addShop 0 [some (.inr k0), some (.inl x1)] [] σ Q
  refine g_aload_n dX8_addShop_0 rfl rfl ?_
  refine g_dup dX8_addShop_1 ?_
  refine g_getI flX8_20 hk0.1 hk0.2.1 (by decide) hk0.2.2.2.1 dX8_addShop_2 ?_
  refine g_iconst dX8_addShop_5 (by decide) ?_
  obtain ⟨p1, h⟩ := h
  refine g_iadd dX8_addShop_6 p1 ?_
  refine g_putI fpX8_20 hk0.1 hk0.2.1 (by decide) hk0.2.2.2.1 (Or.inl rfl) dX8_addShop_7 ?_
  refine g_aload_n dX8_addShop_10 rfl rfl ?_
  refine g_aload_n dX8_addShop_11 rfl rfl ?_
  refine g_getI flX8_20 hk0.1 hk0.2.1 (by decide) hk0.2.2.2.1 dX8_addShop_12 ?_
  refine g_top (w := ((σ k0 1) + 1)) (by simp [mu] <;> (intros; omega)) ?_
  refine g_iconst dX8_addShop_15 (by decide) ?_
  obtain ⟨p2, h⟩ := h
  refine g_isub dX8_addShop_16 p2 ?_
  refine g_iconst dX8_addShop_17 (by decide) ?_
  refine g_iload_n dX8_addShop_18 rfl rfl ?_
  refine g_invVI (as := [.inl (((σ k0 1) + 1) - 1), .inl (-1), .inl x1]) (rest := []) okX8_seatBehind mlX8_32 hk0.1 hk0.2.1 ⟨_, _, rfl⟩ rfl ⟨Nat.le_of_ble_eq_true rfl, Nat.le_of_ble_eq_true rfl⟩ (Nat.le_of_ble_eq_true rfl) rfl dX8_addShop_19 h (Or.inr rfl) (fun v3 σ4 e5 => ?_)
  have h := e5
  refine g_pop dX8_addShop_22 ?_
  exact g_return rfl dX8_addShop_23 h
set_option maxRecDepth 100000 in
theorem rX8_copy_0 {k0 : Nat} (hk0 : isSeats k0) {k1 : Nat} (hk1 : isSeats k1) {σ : Mem} {Q : Int → Mem → Prop} (h : GO none mX8_copy 10 [some (.inr k0), some (.inr k1), some (.inl 0)] [] (mu σ k0 1 (σ k1 1)) Q) : CM mX8_copy [.inr k0, .inr k1] σ Q := by
  refine CM_of_GO (by decide +kernel) rfl (Nat.le_of_ble_eq_true rfl) ?_
  show GO none mX8_copy 0 [some (.inr k0), some (.inr k1), none] [] σ Q
  refine g_aload_n dX8_copy_0 rfl rfl ?_
  refine g_aload_n dX8_copy_1 rfl rfl ?_
  refine g_getI flX8_20 hk1.1 hk1.2.1 (by decide) hk1.2.2.2.1 dX8_copy_2 ?_
  refine g_putI fpX8_20 hk0.1 hk0.2.1 (by decide) hk0.2.2.2.1 (Or.inl rfl) dX8_copy_5 ?_
  refine g_iconst dX8_copy_8 (by decide) ?_
  refine g_istore_n (ls' := [some (.inr k0), some (.inr k1), some (.inl 0)]) dX8_copy_9 rfl (by decide) rfl ?_
  exact h
set_option maxRecDepth 100000 in
theorem rX8_copy_10 {x2 : Int} {k0 : Nat} (hk0 : isSeats k0) {k1 : Nat} (hk1 : isSeats k1) {σ : Mem} {Q : Int → Mem → Prop} (h : ((σ k0 1) ≤ x2 → Q 0 σ) ∧ (x2 < (σ k0 1) → ((0 ≤ x2) ∧ (((x2 < 5) ∧ (((inR (x2 + 1)) ∧ (GO none mX8_copy 10 [some (.inr k0), some (.inr k1), some (.inl (x2 + 1))] [] (mu σ (k0 + 2) (x2).toNat (σ (k1 + 2) (x2).toNat)) Q)))))))) : GO none mX8_copy 10 [some (.inr k0), some (.inr k1), some (.inl x2)] [] σ Q := by
  refine g_iload_n dX8_copy_10 rfl rfl ?_
  refine g_aload_n dX8_copy_11 rfl rfl ?_
  refine g_getI flX8_20 hk0.1 hk0.2.1 (by decide) hk0.2.2.2.1 dX8_copy_12 ?_
  refine g_icmp_ge (tgt := 40) dX8_copy_15 (by decide) (fun c1 => ?_) (fun c1 => ?_)
  · have h := h.1 c1
    exact g_return rfl dX8_copy_40 h
  · have h := h.2 c1
    refine g_aload_n dX8_copy_18 rfl rfl ?_
    refine g_getR (r' := (k0 + 1)) flX8_14 hk0.1 hk0.2.1 (by decide) hk0.2.2.1 dX8_copy_19 ?_
    refine g_iload_n dX8_copy_22 rfl rfl ?_
    refine g_aload_n dX8_copy_23 rfl rfl ?_
    refine g_getR (r' := (k1 + 1)) flX8_14 hk1.1 hk1.2.1 (by decide) hk1.2.2.1 dX8_copy_24 ?_
    refine g_iload_n dX8_copy_27 rfl rfl ?_
    obtain ⟨p2, h⟩ := h
    obtain ⟨p3, h⟩ := h
    refine g_invVI (as := [.inl x2]) (rest := [.inl x2, .inr (k0 + 1)]) okX7_get mlX8_24 hk1.2.2.2.2.1 hk1.2.2.2.2.2.2.1 ⟨_, _, rfl⟩ rfl ⟨Nat.le_of_ble_eq_true rfl, Nat.le_of_ble_eq_true rfl⟩ (Nat.le_of_ble_eq_true rfl) rfl dX8_copy_28 (c_X7_get hk1.2.2.2.2 p2 p3) (Or.inl rfl) (fun v4 σ5 e6 => ?_)
    obtain ⟨e6a, e6b⟩ := e6; subst v4; subst σ5
    refine g_invVV (as := [.inl x2, .inl (σ (k1 + 2) (x2).toNat)]) (rest := []) okX7_set mlX8_28 hk0.2.2.2.2.1 hk0.2.2.2.2.2.2.1 ⟨_, _, rfl⟩ rfl ⟨Nat.le_of_ble_eq_true rfl, Nat.le_of_ble_eq_true rfl⟩ (Nat.le_of_ble_eq_true rfl) rfl dX8_copy_31 (c_X7_set hk0.2.2.2.2 p2 p3) rfl (fun σ8 e9 => ?_)
    subst σ8
    obtain ⟨p10, h⟩ := h
    refine g_iinc (ls' := [some (.inr k0), some (.inr k1), some (.inl (x2 + 1))]) dX8_copy_34 (by decide) rfl p10 rfl ?_
    refine g_goto (tgt := 10) dX8_copy_37 (by decide) ?_
    exact h
set_option maxRecDepth 100000 in
theorem rX8_told_0 {k0 : Nat} (hk0 : isSeats k0) {σ : Mem} {Q : Int → Mem → Prop} (h : ((inR ((σ k0 1) - 1)) ∧ (GO none mX8_told 9 [some (.inr k0), some (.inl 0), some (.inl ((σ k0 1) - 1))] [] σ Q))) : CM mX8_told [.inr k0] σ Q := by
  refine CM_of_GO (by decide +kernel) rfl (Nat.le_of_ble_eq_true rfl) ?_
  show GO none mX8_told 0 [some (.inr k0), none, none] [] σ Q
  refine g_iconst dX8_told_0 (by decide) ?_
  refine g_istore_n (ls' := [some (.inr k0), some (.inl 0), none]) dX8_told_1 rfl (by decide) rfl ?_
  refine g_aload_n dX8_told_2 rfl rfl ?_
  refine g_getI flX8_20 hk0.1 hk0.2.1 (by decide) hk0.2.2.2.1 dX8_told_3 ?_
  refine g_iconst dX8_told_6 (by decide) ?_
  obtain ⟨p1, h⟩ := h
  refine g_isub dX8_told_7 p1 ?_
  refine g_istore_n (ls' := [some (.inr k0), some (.inl 0), some (.inl ((σ k0 1) - 1))]) dX8_told_8 rfl (by decide) rfl ?_
  exact h
set_option maxRecDepth 100000 in
theorem rX8_told_9 {x1 x2 : Int} {k0 : Nat} (hk0 : isSeats k0) {σ : Mem} {Q : Int → Mem → Prop} (h : (x2 < 0 → Q x1 σ) ∧ (0 ≤ x2 → ((inR (x1 * 6)) ∧ (((x2 < 5) ∧ (((inR ((x1 * 6) + (σ (k0 + 2) (x2).toNat))) ∧ (((inR (x2 + (-1))) ∧ (GO none mX8_told 9 [some (.inr k0), some (.inl ((x1 * 6) + (σ (k0 + 2) (x2).toNat))), some (.inl (x2 + (-1)))] [] σ Q)))))))))) : GO none mX8_told 9 [some (.inr k0), some (.inl x1), some (.inl x2)] [] σ Q := by
  refine g_iload_n dX8_told_9 rfl rfl ?_
  refine g_if_lt (tgt := 33) dX8_told_10 (by decide) (fun c1 => ?_) (fun c1 => ?_)
  · have h := h.1 c1
    refine g_iload_n dX8_told_33 rfl rfl ?_
    exact g_ireturn rfl dX8_told_34 h
  · have h := h.2 c1
    refine g_iload_n dX8_told_13 rfl rfl ?_
    refine g_bipush dX8_told_14 (by decide) (by decide) ?_
    obtain ⟨p2, h⟩ := h
    refine g_imul dX8_told_16 p2 ?_
    refine g_aload_n dX8_told_17 rfl rfl ?_
    refine g_getR (r' := (k0 + 1)) flX8_14 hk0.1 hk0.2.1 (by decide) hk0.2.2.1 dX8_told_18 ?_
    refine g_iload_n dX8_told_21 rfl rfl ?_
    obtain ⟨p3, h⟩ := h
    refine g_invVI (as := [.inl x2]) (rest := [.inl (x1 * 6)]) okX7_get mlX8_24 hk0.2.2.2.2.1 hk0.2.2.2.2.2.2.1 ⟨_, _, rfl⟩ rfl ⟨Nat.le_of_ble_eq_true rfl, Nat.le_of_ble_eq_true rfl⟩ (Nat.le_of_ble_eq_true rfl) rfl dX8_told_22 (c_X7_get hk0.2.2.2.2 c1 p3) (Or.inl rfl) (fun v4 σ5 e6 => ?_)
    obtain ⟨e6a, e6b⟩ := e6; subst v4; subst σ5
    obtain ⟨p7, h⟩ := h
    refine g_iadd dX8_told_25 p7 ?_
    refine g_istore_n (ls' := [some (.inr k0), some (.inl ((x1 * 6) + (σ (k0 + 2) (x2).toNat))), some (.inl x2)]) dX8_told_26 rfl (by decide) rfl ?_
    obtain ⟨p8, h⟩ := h
    refine g_iinc (ls' := [some (.inr k0), some (.inl ((x1 * 6) + (σ (k0 + 2) (x2).toNat))), some (.inl (x2 + (-1)))]) dX8_told_27 (by decide) rfl p8 rfl ?_
    refine g_goto (tgt := 9) dX8_told_30 (by decide) ?_
    exact h
set_option maxRecDepth 100000 in
theorem rX8_comesBefore_0 {k0 : Nat} (hk0 : isSeats k0) {k1 : Nat} (hk1 : isSeats k1) {σ : Mem} {Q : Int → Mem → Prop} (h : GO none mX8_comesBefore 2 [some (.inr k0), some (.inr k1), some (.inl 0), none, none] [] σ Q) : CM mX8_comesBefore [.inr k0, .inr k1] σ Q := by
  refine CM_of_GO (by decide +kernel) rfl (Nat.le_of_ble_eq_true rfl) ?_
  show GO none mX8_comesBefore 0 [some (.inr k0), some (.inr k1), none, none, none] [] σ Q
  refine g_iconst dX8_comesBefore_0 (by decide) ?_
  refine g_istore_n (ls' := [some (.inr k0), some (.inr k1), some (.inl 0), none, none]) dX8_comesBefore_1 rfl (by decide) rfl ?_
  exact h
set_option maxRecDepth 100000 in
theorem rX8_comesBefore_2 {x2 : Int} {k0 : Nat} (hk0 : isSeats k0) {k1 : Nat} (hk1 : isSeats k1) {σ : Mem} {Q : Int → Mem → Prop} (h : ((σ k0 1) ≤ x2 → Q 0 σ) ∧ (x2 < (σ k0 1) → ((0 ≤ x2) ∧ (((x2 < 5) ∧ (((σ (k0 + 2) (x2).toNat) = (σ (k1 + 2) (x2).toNat) → ((inR (x2 + 1)) ∧ (GO none mX8_comesBefore 2 [some (.inr k0), some (.inr k1), some (.inl (x2 + 1)), none, none] [] σ Q))) ∧ ((σ (k0 + 2) (x2).toNat) ≠ (σ (k1 + 2) (x2).toNat) → ((σ (k1 + 2) (x2).toNat) ≤ (σ (k0 + 2) (x2).toNat) → Q 0 σ) ∧ ((σ (k0 + 2) (x2).toNat) < (σ (k1 + 2) (x2).toNat) → Q 1 σ)))))))) : GO none mX8_comesBefore 2 [some (.inr k0), some (.inr k1), some (.inl x2), none, none] [] σ Q := by
  refine g_iload_n dX8_comesBefore_2 rfl rfl ?_
  refine g_aload_n dX8_comesBefore_3 rfl rfl ?_
  refine g_getI flX8_20 hk0.1 hk0.2.1 (by decide) hk0.2.2.2.1 dX8_comesBefore_4 ?_
  refine g_icmp_ge (tgt := 53) dX8_comesBefore_7 (by decide) (fun c1 => ?_) (fun c1 => ?_)
  · have h := h.1 c1
    refine g_iconst dX8_comesBefore_53 (by decide) ?_
    exact g_zreturn rfl dX8_comesBefore_54 (by decide) h
  · have h := h.2 c1
    refine g_aload_n dX8_comesBefore_10 rfl rfl ?_
    refine g_getR (r' := (k0 + 1)) flX8_14 hk0.1 hk0.2.1 (by decide) hk0.2.2.1 dX8_comesBefore_11 ?_
    refine g_iload_n dX8_comesBefore_14 rfl rfl ?_
    obtain ⟨p2, h⟩ := h
    obtain ⟨p3, h⟩ := h
    refine g_invVI (as := [.inl x2]) (rest := []) okX7_get mlX8_24 hk0.2.2.2.2.1 hk0.2.2.2.2.2.2.1 ⟨_, _, rfl⟩ rfl ⟨Nat.le_of_ble_eq_true rfl, Nat.le_of_ble_eq_true rfl⟩ (Nat.le_of_ble_eq_true rfl) rfl dX8_comesBefore_15 (c_X7_get hk0.2.2.2.2 p2 p3) (Or.inl rfl) (fun v4 σ5 e6 => ?_)
    obtain ⟨e6a, e6b⟩ := e6; subst v4; subst σ5
    refine g_istore_n (ls' := [some (.inr k0), some (.inr k1), some (.inl x2), some (.inl (σ (k0 + 2) (x2).toNat)), none]) dX8_comesBefore_18 rfl (by decide) rfl ?_
    refine g_aload_n dX8_comesBefore_19 rfl rfl ?_
    refine g_getR (r' := (k1 + 1)) flX8_14 hk1.1 hk1.2.1 (by decide) hk1.2.2.1 dX8_comesBefore_20 ?_
    refine g_iload_n dX8_comesBefore_23 rfl rfl ?_
    refine g_invVI (as := [.inl x2]) (rest := []) okX7_get mlX8_24 hk1.2.2.2.2.1 hk1.2.2.2.2.2.2.1 ⟨_, _, rfl⟩ rfl ⟨Nat.le_of_ble_eq_true rfl, Nat.le_of_ble_eq_true rfl⟩ (Nat.le_of_ble_eq_true rfl) rfl dX8_comesBefore_24 (c_X7_get hk1.2.2.2.2 p2 p3) (Or.inl rfl) (fun v7 σ8 e9 => ?_)
    obtain ⟨e9a, e9b⟩ := e9; subst v7; subst σ8
    refine g_istore (ls' := [some (.inr k0), some (.inr k1), some (.inl x2), some (.inl (σ (k0 + 2) (x2).toNat)), some (.inl (σ (k1 + 2) (x2).toNat))]) dX8_comesBefore_27 (by decide) rfl ?_
    refine g_iload_n dX8_comesBefore_29 rfl rfl ?_
    refine g_iload dX8_comesBefore_30 rfl ?_
    refine g_icmp_eq (tgt := 47) dX8_comesBefore_32 (by decide) (fun c10 => ?_) (fun c10 => ?_)
    · have h := h.1 c10
      obtain ⟨p11, h⟩ := h
      refine g_iinc (ls' := [some (.inr k0), some (.inr k1), some (.inl (x2 + 1)), some (.inl (σ (k0 + 2) (x2).toNat)), some (.inl (σ (k1 + 2) (x2).toNat))]) dX8_comesBefore_47 (by decide) rfl p11 rfl ?_
      refine g_goto (tgt := 2) dX8_comesBefore_50 (by decide) ?_
      refine g_kill (i := 3) (ls' := [some (.inr k0), some (.inr k1), some (.inl (x2 + 1)), none, some (.inl (σ (k1 + 2) (x2).toNat))]) rfl ?_
      refine g_kill (i := 4) (ls' := [some (.inr k0), some (.inr k1), some (.inl (x2 + 1)), none, none]) rfl ?_
      exact h
    · have h := h.2 c10
      refine g_iload_n dX8_comesBefore_35 rfl rfl ?_
      refine g_iload dX8_comesBefore_36 rfl ?_
      refine g_icmp_ge (tgt := 45) dX8_comesBefore_38 (by decide) (fun c12 => ?_) (fun c12 => ?_)
      · have h := h.1 c12
        refine g_iconst dX8_comesBefore_45 (by decide) ?_
        exact g_zreturn rfl dX8_comesBefore_46 (by decide) h
      · have h := h.2 c12
        refine g_iconst dX8_comesBefore_41 (by decide) ?_
        refine g_goto (tgt := 46) dX8_comesBefore_42 (by decide) ?_
        exact g_zreturn rfl dX8_comesBefore_46 (by decide) h
set_option maxRecDepth 100000 in
theorem rX8_read_0 {x1 x2 x3 : Int} {k0 : Nat} (hk0 : isSeats k0) {σ : Mem} {Q : Int → Mem → Prop} (h : GO none mX8_read 11 [some (.inr k0), some (.inl x1), some (.inl x2), some (.inl x3), some (.inl x1), some (.inl 0), none] [] (mu σ k0 1 x2) Q) : CM mX8_read [.inr k0, .inl x1, .inl x2, .inl x3] σ Q := by
  refine CM_of_GO (by decide +kernel) rfl (Nat.le_of_ble_eq_true rfl) ?_
  show GO none mX8_read 0 [some (.inr k0), some (.inl x1), some (.inl x2), some (.inl x3), none, none, none] [] σ Q
  refine g_iload_n dX8_read_0 rfl rfl ?_
  refine g_istore (ls' := [some (.inr k0), some (.inl x1), some (.inl x2), some (.inl x3), some (.inl x1), none, none]) dX8_read_1 (by decide) rfl ?_
  refine g_aload_n dX8_read_3 rfl rfl ?_
  refine g_iload_n dX8_read_4 rfl rfl ?_
  refine g_putI fpX8_20 hk0.1 hk0.2.1 (by decide) hk0.2.2.2.1 (Or.inl rfl) dX8_read_5 ?_
  refine g_iconst dX8_read_8 (by decide) ?_
  refine g_istore (ls' := [some (.inr k0), some (.inl x1), some (.inl x2), some (.inl x3), some (.inl x1), some (.inl 0), none]) dX8_read_9 (by decide) rfl ?_
  exact h
set_option maxRecDepth 100000 in
theorem rX8_read_11 {x1 x2 x3 x4 x5 : Int} {k0 : Nat} (hk0 : isSeats k0) {σ : Mem} {Q : Int → Mem → Prop} (h : (x2 ≤ x5 → (x4 ≠ 0 → Q 0 σ) ∧ (x4 = 0 → Q 1 σ)) ∧ (x5 < x2 → ((Int.tmod x4 6) < 0 → Q 0 σ) ∧ (0 ≤ (Int.tmod x4 6) → (x3 ≤ (Int.tmod x4 6) → Q 0 σ) ∧ ((Int.tmod x4 6) < x3 → ((x5 ≤ 5) ∧ (((whoF (σ (k0 + 2)) (Int.tmod x4 6) 0 (x5).toNat) = (-1) → ((0 ≤ x5) ∧ (((x5 < 5) ∧ (((inR (x5 + 1)) ∧ (GO none mX8_read 11 [some (.inr k0), some (.inl x1), some (.inl x2), some (.inl x3), some (.inl (Int.tdiv x4 6)), some (.inl (x5 + 1)), none] [] (mu σ (k0 + 2) (x5).toNat (Int.tmod x4 6)) Q))))))) ∧ ((whoF (σ (k0 + 2)) (Int.tmod x4 6) 0 (x5).toNat) ≠ (-1) → Q 0 σ))))))) : GO none mX8_read 11 [some (.inr k0), some (.inl x1), some (.inl x2), some (.inl x3), some (.inl x4), some (.inl x5), none] [] σ Q := by
  refine g_iload dX8_read_11 rfl ?_
  refine g_iload_n dX8_read_13 rfl rfl ?_
  refine g_icmp_ge (tgt := 73) dX8_read_14 (by decide) (fun c1 => ?_) (fun c1 => ?_)
  · have h := h.1 c1
    refine g_iload dX8_read_73 rfl ?_
    refine g_if_ne (tgt := 82) dX8_read_75 (by decide) (fun c2 => ?_) (fun c2 => ?_)
    · have h := h.1 c2
      refine g_iconst dX8_read_82 (by decide) ?_
      exact g_zreturn rfl dX8_read_83 (by decide) h
    · have h := h.2 c2
      refine g_iconst dX8_read_78 (by decide) ?_
      refine g_goto (tgt := 83) dX8_read_79 (by decide) ?_
      exact g_zreturn rfl dX8_read_83 (by decide) h
  · have h := h.2 c1
    refine g_iload dX8_read_17 rfl ?_
    refine g_bipush dX8_read_19 (by decide) (by decide) ?_
    refine g_irem dX8_read_21 (by decide) ?_
    refine g_istore (ls' := [some (.inr k0), some (.inl x1), some (.inl x2), some (.inl x3), some (.inl x4), some (.inl x5), some (.inl (Int.tmod x4 6))]) dX8_read_22 (by decide) rfl ?_
    refine g_iload dX8_read_24 rfl ?_
    refine g_if_lt (tgt := 47) dX8_read_26 (by decide) (fun c3 => ?_) (fun c3 => ?_)
    · have h := h.1 c3
      refine g_iconst dX8_read_47 (by decide) ?_
      exact g_zreturn rfl dX8_read_48 (by decide) h
    · have h := h.2 c3
      refine g_iload dX8_read_29 rfl ?_
      refine g_iload_n dX8_read_31 rfl rfl ?_
      refine g_icmp_ge (tgt := 47) dX8_read_32 (by decide) (fun c4 => ?_) (fun c4 => ?_)
      · have h := h.1 c4
        refine g_iconst dX8_read_47 (by decide) ?_
        exact g_zreturn rfl dX8_read_48 (by decide) h
      · have h := h.2 c4
        refine g_aload_n dX8_read_35 rfl rfl ?_
        refine g_iload dX8_read_36 rfl ?_
        refine g_iload dX8_read_38 rfl ?_
        obtain ⟨p5, h⟩ := h
        refine g_invVI (as := [.inl (Int.tmod x4 6), .inl x5]) (rest := []) okX8_whoIsAt mlX8_36 hk0.1 hk0.2.1 ⟨_, _, rfl⟩ rfl ⟨Nat.le_of_ble_eq_true rfl, Nat.le_of_ble_eq_true rfl⟩ (Nat.le_of_ble_eq_true rfl) rfl dX8_read_40 (c_X8_whoIsAt hk0 p5) (Or.inl rfl) (fun v6 σ7 e8 => ?_)
        obtain ⟨e8a, e8b⟩ := e8; subst v6; subst σ7
        refine g_iconst dX8_read_43 (by decide) ?_
        refine g_icmp_eq (tgt := 49) dX8_read_44 (by decide) (fun c9 => ?_) (fun c9 => ?_)
        · have h := h.1 c9
          refine g_aload_n dX8_read_49 rfl rfl ?_
          refine g_getR (r' := (k0 + 1)) flX8_14 hk0.1 hk0.2.1 (by decide) hk0.2.2.1 dX8_read_50 ?_
          refine g_iload dX8_read_53 rfl ?_
          refine g_iload dX8_read_55 rfl ?_
          obtain ⟨p10, h⟩ := h
          obtain ⟨p11, h⟩ := h
          refine g_invVV (as := [.inl x5, .inl (Int.tmod x4 6)]) (rest := []) okX7_set mlX8_28 hk0.2.2.2.2.1 hk0.2.2.2.2.2.2.1 ⟨_, _, rfl⟩ rfl ⟨Nat.le_of_ble_eq_true rfl, Nat.le_of_ble_eq_true rfl⟩ (Nat.le_of_ble_eq_true rfl) rfl dX8_read_57 (c_X7_set hk0.2.2.2.2 p10 p11) rfl (fun σ13 e14 => ?_)
          subst σ13
          refine g_iload dX8_read_60 rfl ?_
          refine g_bipush dX8_read_62 (by decide) (by decide) ?_
          refine g_idiv dX8_read_64 (by decide) ?_
          refine g_istore (ls' := [some (.inr k0), some (.inl x1), some (.inl x2), some (.inl x3), some (.inl (Int.tdiv x4 6)), some (.inl x5), some (.inl (Int.tmod x4 6))]) dX8_read_65 (by decide) rfl ?_
          obtain ⟨p15, h⟩ := h
          refine g_iinc (ls' := [some (.inr k0), some (.inl x1), some (.inl x2), some (.inl x3), some (.inl (Int.tdiv x4 6)), some (.inl (x5 + 1)), some (.inl (Int.tmod x4 6))]) dX8_read_67 (by decide) rfl p15 rfl ?_
          refine g_goto (tgt := 11) dX8_read_70 (by decide) ?_
          refine g_kill (i := 6) (ls' := [some (.inr k0), some (.inl x1), some (.inl x2), some (.inl x3), some (.inl (Int.tdiv x4 6)), some (.inl (x5 + 1)), none]) rfl ?_
          exact h
        · have h := h.2 c9
          refine g_iconst dX8_read_47 (by decide) ?_
          exact g_zreturn rfl dX8_read_48 (by decide) h
theorem c_X8_addShop {k : Nat} {p : List Nat} {n r : Nat} {x1 : Int} {σ : Mem} (hk : isSeats k) (hp : hld σ (k + 2) p) (hc : σ k 1 = p.length) (h5 : p.length < 5) (hn : n ≤ 6) (hr : nf n p 0 = some r) (e1 : x1 = n) : CM mX8_addShop [.inr k, .inl x1] σ (fun _ σ1 => σ1 k 1 = (p.length : Int) + 1 ∧ hld σ1 (k + 2) (p ++ [r]) ∧ σ1 = mu (mu σ k 1 ((p.length : Int) + 1)) (k + 2) p.length (r : Int)) := by
  subst e1
  refine rX8_addShop_0 hk ⟨by omega, by omega, ?_⟩
  rw [hc]
  have hp1 : hld (mu σ k 1 ((p.length : Int) + 1)) (k + 2) p := hp.cong (mu_nef (by omega))
  refine CM.mono (fun v σ1 hq => ?_) (c_X8_seatBehind (pre := p) (lo := 0) (n := n) hk hp1 h5 (by omega) hn (by omega) rfl rfl)
  unfold sbR at hq
  rw [hr] at hq
  obtain ⟨-, rfl⟩ := hq
  refine ⟨?_, hp1.snoc r, rfl⟩
  rw [mu_ne k (by omega), mu_at, if_pos rfl]
theorem c_X8_copy {k j : Nat} {p : List Nat} {σ : Mem} (hk : isSeats k) (hj : isSeats j) (hne : k ≠ j) (hp : hld σ (j + 2) p) (hc : σ j 1 = p.length) (h5 : p.length ≤ 5) : CM mX8_copy [.inr k, .inr j] σ (fun _ σ1 => σ1 k 1 = p.length ∧ hld σ1 (k + 2) p ∧ Same [k, k + 2] σ σ1) := by
  have n1 := seats_ne hj hk
  have n2 := seats_ne hk hj
  have key : ∀ (d i : Nat) (σ0 : Mem), i + d = p.length → σ0 k 1 = p.length → hld σ0 (k + 2) (p.take i) → Same [k, k + 2] σ σ0 → GO none mX8_copy 10 [some (.inr k), some (.inr j), some (.inl (i : Int))] [] σ0 (fun _ σ1 => σ1 k 1 = p.length ∧ hld σ1 (k + 2) p ∧ Same [k, k + 2] σ σ1) := by
    intro d
    induction d with
    | zero =>
      intro i σ0 hd h1 h2 h3
      refine rX8_copy_10 hk hj ⟨fun h => ⟨h1, ?_, h3⟩, fun h => by omega⟩
      rw [show i = p.length by omega, List.take_length] at h2
      exact h2
    | succ d ih =>
      intro i σ0 hd h1 h2 h3
      refine rX8_copy_10 hk hj ⟨fun h => by omega, fun h => ⟨by omega, by omega, by omega, ?_⟩⟩
      rw [Int.toNat_natCast]
      have hi : i < p.length := by omega
      have e1 : σ0 (j + 2) i = (p[i] : Int) := by
        rw [h3 (j + 2) (by simp; omega)]
        exact hp i hi
      rw [e1]
      have hs := h2.snoc p[i]
      have el : (p.take i).length = i := by rw [List.length_take]; omega
      rw [el, List.take_append_getElem hi] at hs
      exact ih (i + 1) (mu σ0 (k + 2) i (p[i] : Int)) (by omega) (by rw [mu_ne k (by omega)]; exact h1) hs (h3.tr (Same.mu (by simp)))
  refine rX8_copy_0 hk hj ?_
  exact key p.length 0 _ (by omega) (by rw [mu_at, if_pos rfl]; exact hc) hld_nil (Same.mu (by simp))
theorem drop_tld {p : List Nat} {i : Nat} (h : i < p.length) : tld (p.drop i) = (p[i] : Int) + 6 * tld (p.drop (i + 1)) := by
  rw [List.drop_eq_getElem_cons h]
  rfl
theorem c_X8_told {k : Nat} {p : List Nat} {σ : Mem} (hk : isSeats k) (hp : hld σ (k + 2) p) (hc : σ k 1 = p.length) (h5 : p.length ≤ 5) (hs : ∀ s ∈ p, s < 6) : CM mX8_told [.inr k] σ (fun v σ1 => v = tld p ∧ σ1 = σ) := by
  have hb : ∀ i, 0 ≤ tld (p.drop i) ∧ tld (p.drop i) < 7776 := fun i => by
    refine ⟨tld_nn _, ?_⟩
    have h1 := tld_lt (p.drop i) (fun s hm => hs s (List.mem_of_mem_drop hm))
    have h2 : (p.drop i).length ≤ 5 := by rw [List.length_drop]; omega
    have h3 := pow6_le h2
    omega
  have key : ∀ (i : Nat), i ≤ p.length → GO none mX8_told 9 [some (.inr k), some (.inl (tld (p.drop i))), some (.inl ((i : Int) - 1))] [] σ (fun v σ1 => v = tld p ∧ σ1 = σ) := by
    intro i
    induction i with
    | zero =>
      intro _
      exact rX8_told_9 hk ⟨fun _ => ⟨rfl, rfl⟩, fun h => by omega⟩
    | succ i ih =>
      intro hi
      have h1 := hb (i + 1)
      have h2 := hb i
      have e1 : (((i + 1 : Nat) : Int) - 1) = (i : Int) := by omega
      have e2 : σ (k + 2) i = (p[i] : Int) := hp i (by omega)
      have e3 := drop_tld (p := p) (i := i) (by omega)
      rw [e1]
      refine rX8_told_9 hk ⟨fun h => by omega, fun _ => ⟨by omega, by omega, ?_, by omega, ?_⟩⟩
      · rw [Int.toNat_natCast, e2]
        omega
      · rw [Int.toNat_natCast, e2, show tld (p.drop (i + 1)) * 6 + (p[i] : Int) = tld (p.drop i) by omega]
        exact ih (by omega)
  refine rX8_told_0 hk ⟨by omega, ?_⟩
  have := key p.length (Nat.le_refl _)
  rw [List.drop_length] at this
  rw [hc]
  exact this
def lexlt : List Nat → List Nat → Bool
  | s :: p, t :: q => if s = t then lexlt p q else decide (s < t)
  | _, _ => false
theorem lexlt_cons {s t : Nat} {p q : List Nat} : lexlt (s :: p) (t :: q) = if s = t then lexlt p q else decide (s < t) := by rw [lexlt]
theorem c_X8_comesBefore {k j : Nat} {p q : List Nat} {σ : Mem} (hk : isSeats k) (hj : isSeats j) (hp : hld σ (k + 2) p) (hq : hld σ (j + 2) q) (hc : σ k 1 = p.length) (hl : q.length = p.length) (h5 : p.length ≤ 5) : CM mX8_comesBefore [.inr k, .inr j] σ (fun v σ1 => v = (if lexlt p q = true then 1 else 0) ∧ σ1 = σ) := by
  have key : ∀ (d i : Nat), i + d = p.length → lexlt (p.drop i) (q.drop i) = lexlt p q → GO none mX8_comesBefore 2 [some (.inr k), some (.inr j), some (.inl (i : Int)), none, none] [] σ (fun v σ1 => v = (if lexlt p q = true then 1 else 0) ∧ σ1 = σ) := by
    intro d
    induction d with
    | zero =>
      intro i hd he
      refine rX8_comesBefore_2 hk hj ⟨fun h => ⟨?_, rfl⟩, fun h => by omega⟩
      rw [List.drop_eq_nil_of_le (by omega), List.drop_eq_nil_of_le (by omega)] at he
      rw [← he]
      rfl
    | succ d ih =>
      intro i hd he
      have hi : i < p.length := by omega
      have hi2 : i < q.length := by omega
      have e1 : σ (k + 2) i = (p[i] : Int) := hp i hi
      have e2 : σ (j + 2) i = (q[i] : Int) := hq i hi2
      rw [List.drop_eq_getElem_cons hi, List.drop_eq_getElem_cons hi2, lexlt_cons] at he
      refine rX8_comesBefore_2 hk hj ⟨fun h => by omega, fun h => ⟨by omega, by omega, ?_, ?_⟩⟩
      · intro h2
        rw [Int.toNat_natCast, e1, e2] at h2
        rw [if_pos (by omega)] at he
        exact ⟨by omega, ih (i + 1) (by omega) he⟩
      · intro h2
        rw [Int.toNat_natCast, e1, e2] at h2 ⊢
        rw [if_neg (by omega)] at he
        refine ⟨fun h3 => ⟨?_, rfl⟩, fun h3 => ⟨?_, rfl⟩⟩
        · rw [← he, if_neg]
          simp
          omega
        · rw [← he, if_pos]
          simp
          omega
  refine rX8_comesBefore_0 hk hj ?_
  exact key p.length 0 (by omega) rfl
def comb : List Nat → Int → Int
  | [], r => r
  | s :: p, r => (s : Int) + 6 * comb p r
theorem comb_snoc : ∀ (p : List Nat) (s : Nat) (r : Int), comb (p ++ [s]) r = comb p ((s : Int) + 6 * r)
  | [], s, r => rfl
  | t :: p, s, r => by
    show (t : Int) + 6 * comb (p ++ [s]) r = (t : Int) + 6 * comb p _
    rw [comb_snoc p s r]
theorem comb_0 : ∀ p, comb p 0 = tld p
  | [] => rfl
  | s :: p => by
    show (s : Int) + 6 * comb p 0 = (s : Int) + 6 * tld p
    rw [comb_0 p]
def readP (m n : Nat) (told : Int) (k : Nat) (σ : Mem) (v : Int) (σ1 : Mem) : Prop :=
  Same [k, k + 2] σ σ1 ∧ ((v = 1 ∧ ∃ q, isPl m n q ∧ tld q = told ∧ σ1 k 1 = m ∧ hld σ1 (k + 2) q) ∨ (v = 0 ∧ ∀ q, isPl m n q → tld q ≠ told))
theorem c_X8_read {k m n : Nat} {x1 x2 x3 : Int} {σ : Mem} (hk : isSeats k) (hm : m ≤ 5) (hn : n ≤ 6) (e2 : x2 = m) (e3 : x3 = n) : CM mX8_read [.inr k, .inl x1, .inl x2, .inl x3] σ (readP m n x1 k σ) := by
  subst e2 e3
  have key : ∀ (d : Nat) (p : List Nat) (r : Int) (σ0 : Mem), p.length + d = m → σ0 k 1 = m → hld σ0 (k + 2) p → Same [k, k + 2] σ σ0 → (∀ s ∈ p, s < n) → p.Nodup → comb p r = x1 → (∀ q, isPl m n q → tld q = x1 → q.take p.length = p ∧ r = tld (q.drop p.length)) → GO none mX8_read 11 [some (.inr k), some (.inl x1), some (.inl (m : Int)), some (.inl (n : Int)), some (.inl r), some (.inl (p.length : Int)), none] [] σ0 (readP m n x1 k σ) := by
    intro d
    induction d with
    | zero =>
      intro p r σ0 hd h1 h2 h3 h4 h5 h6 h7
      refine rX8_read_11 hk ⟨fun _ => ⟨fun hr => ⟨h3, Or.inr ⟨rfl, fun q hq e => ?_⟩⟩, fun hr => ⟨h3, Or.inl ⟨rfl, p, ⟨by omega, h4, h5⟩, ?_, h1, h2⟩⟩⟩, fun h => by omega⟩
      · obtain ⟨-, h8⟩ := h7 q hq e
        rw [List.drop_eq_nil_of_le (by have := hq.1; omega)] at h8
        exact hr h8
      · rw [← comb_0, ← h6, hr]
    | succ d ih =>
      intro p r σ0 hd h1 h2 h3 h4 h5 h6 h7
      -- any places that are told so go on with the digit
      have dig : ∀ q, isPl m n q → tld q = x1 → ∃ (hl : p.length < q.length), Int.tmod r 6 = (q[p.length] : Int) ∧ Int.tdiv r 6 = tld (q.drop (p.length + 1)) ∧ q.take p.length = p := by
        intro q hq e
        obtain ⟨h8, h9⟩ := h7 q hq e
        have hl : p.length < q.length := by have := hq.1; omega
        have h10 := drop_tld hl
        have h11 := tld_nn (q.drop (p.length + 1))
        have h12 : q[p.length] < 6 := by have := hq.2.1 _ (List.getElem_mem hl); omega
        have hr0 : 0 ≤ r := by omega
        have e1 : Int.tmod r 6 = r % 6 := Int.tmod_eq_emod_of_nonneg hr0
        have e2 : Int.tdiv r 6 = r / 6 := Int.tdiv_eq_ediv_of_nonneg hr0
        exact ⟨hl, by omega, by omega, h8⟩
      have hdm : r = Int.tmod r 6 + 6 * Int.tdiv r 6 := by
        have := Int.tmod_add_tdiv_mul r 6
        omega
      refine rX8_read_11 hk ⟨fun h => by omega, fun h => ⟨fun h8 => ⟨h3, Or.inr ⟨rfl, fun q hq e => ?_⟩⟩, fun h8 => ⟨fun h9 => ⟨h3, Or.inr ⟨rfl, fun q hq e => ?_⟩⟩, fun h9 => ⟨by omega, ?_, ?_⟩⟩⟩⟩
      · obtain ⟨hl, h10, -, -⟩ := dig q hq e
        omega
      · obtain ⟨hl, h10, -, -⟩ := dig q hq e
        have := hq.2.1 _ (List.getElem_mem hl)
        omega
      · intro h10
        obtain ⟨s, hs⟩ : ∃ s : Nat, Int.tmod r 6 = (s : Int) := ⟨(Int.tmod r 6).toNat, by omega⟩
        rw [hs, Int.toNat_natCast, whoF_mem h2] at h10
        rw [hs, Int.toNat_natCast]
        refine ⟨by omega, by omega, by omega, ?_⟩
        have el : (p ++ [s]).length = p.length + 1 := by rw [List.length_append, List.length_singleton]
        have key2 := ih (p ++ [s]) (Int.tdiv r 6) (mu σ0 (k + 2) p.length (s : Int)) (by omega) (by rw [mu_ne k (by omega)]; exact h1) (h2.snoc s) (h3.tr (Same.mu (by simp))) ?_ ?_ ?_ ?_
        · rw [el] at key2
          exact key2
        · intro t ht
          rcases List.mem_append.mp ht with h | h
          · exact h4 t h
          · rw [List.mem_singleton.mp h]; omega
        · exact List.nodup_append.mpr ⟨h5, by simp, fun a ha b hb => by rw [List.mem_singleton.mp hb]; exact fun q => h10 (q ▸ ha)⟩
        · rw [comb_snoc, ← hs, ← hdm]
          exact h6
        · intro q hq e
          obtain ⟨hl, h11, h12, h13⟩ := dig q hq e
          rw [el]
          refine ⟨?_, h12⟩
          rw [← List.take_append_getElem hl, h13]
          have : q[p.length] = s := by omega
          rw [this]
      · intro h10
        refine ⟨h3, Or.inr ⟨rfl, fun q hq e => ?_⟩⟩
        obtain ⟨hl, h11, h12, h13⟩ := dig q hq e
        rw [h11, Int.toNat_natCast] at h10
        refine h10 ((whoF_mem h2 _).mpr (fun hm => ?_))
        have hm2 : q[p.length] ∈ q.take p.length := by rw [h13]; exact hm
        have hnd := hq.2.2
        rw [← List.take_append_drop p.length q, List.nodup_append] at hnd
        exact hnd.2.2 _ hm2 _ (by rw [List.drop_eq_getElem_cons hl]; exact List.mem_cons_self) rfl
  refine rX8_read_0 hk ?_
  exact key m [] x1 _ (by simp) (by rw [mu_at, if_pos rfl]) hld_nil (Same.mu (by simp)) (by simp) List.nodup_nil rfl (fun q hq e => ⟨rfl, by rw [← e]; rfl⟩)
