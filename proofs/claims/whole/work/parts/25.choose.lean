/-! ===== the planner chooses ===== -/
def chS (pr : List Nat → Int) (s : Int × List Nat) (p : List Nat) : Int × List Nat := if pr p < s.1 then (pr p, p) else s
def gd (c : List Nat) : Prop := c.length ≤ 5 ∧ ∀ s ∈ c, s < 6
/-- what goes before a choice: the weights of the shops that lie elsewhere than in the year before -/
def mvB (D : Dt) (y : Nat) (b : Nat → Int) (p : List Nat) : Int := if y = 0 then 0 else mvW (dV D) b (fun i => (pg p i : Int)) (dm D)
def chQ (D : Dt) (y : Nat) (r : Int × List Nat) (σ σ1 : Mem) : Prop := hld σ1 60 r.2 ∧ σ1 58 1 = r.2.length ∧ hld σ1 57 r.2 ∧ σ1 55 1 = r.2.length ∧ σ1 66 y = tld r.2 ∧ (∀ t, t ≠ y → σ1 66 t = σ 66 t) ∧ (σ1 51 = if y = 0 ∧ r.1 < 268435456 then fup (σ 51) 9 r.1 else σ 51) ∧ Same [51, 52, 54, 55, 57, 58, 60, 66] σ σ1
set_option maxRecDepth 100000 in
theorem rX6_choose_0 {x1 : Int}  {σ : Mem} {Q : Int → Mem → Prop} (h : CM mX8_begin [.inr 52, .inl (σ 14 6), .inl (σ 1 7)] σ (fun _ σ8 => GO none mX6_choose 29 [some (.inr 51), some (.inl x1), some (.inl 268435456), some (.inl 1), some (.inl 0), none, none] [] σ8 Q)) : CM mX6_choose [.inr 51, .inl x1] σ Q := by
  refine CM_of_GO (by decide +kernel) rfl (Nat.le_of_ble_eq_true rfl) ?_
  show GO none mX6_choose 0 [some (.inr 51), some (.inl x1), none, none, none, none, none] [] σ Q
  refine g_ldc (n := 268435456) dX6_choose_0 kcX6_99 (by decide) (by decide) ?_
  refine g_istore_n (ls' := [some (.inr 51), some (.inl x1), some (.inl 268435456), none, none, none, none]) dX6_choose_2 rfl (by decide) rfl ?_
  refine g_aload_n dX6_choose_3 rfl rfl ?_
  refine g_getR (r' := 52) flX6_12 (by decide) rfl (by decide) rfl dX6_choose_4 ?_
  refine g_aload_n dX6_choose_7 rfl rfl ?_
  refine g_getR (r' := 14) flX6_50 (by decide) rfl (by decide) rfl dX6_choose_8 ?_
  refine g_invVI (as := []) (rest := [.inr 52]) okX9_shops mlX6_75 (by decide) rfl ⟨_, _, rfl⟩ rfl ⟨Nat.le_of_ble_eq_true rfl, Nat.le_of_ble_eq_true rfl⟩ (Nat.le_of_ble_eq_true rfl) rfl dX6_choose_11 (c_X9_shops) (Or.inl rfl) (fun v1 σ2 e3 => ?_)
  obtain ⟨e3a, e3b⟩ := e3; subst v1; subst σ2
  refine g_aload_n dX6_choose_14 rfl rfl ?_
  refine g_getR (r' := 1) flX6_46 (by decide) rfl (by decide) rfl dX6_choose_15 ?_
  refine g_invVI (as := []) (rest := [.inl (σ 14 6), .inr 52]) okX2_slots mlX6_81 (by decide) rfl ⟨_, _, rfl⟩ rfl ⟨Nat.le_of_ble_eq_true rfl, Nat.le_of_ble_eq_true rfl⟩ (Nat.le_of_ble_eq_true rfl) rfl dX6_choose_18 (c_X2_slots) (Or.inl rfl) (fun v4 σ5 e6 => ?_)
  obtain ⟨e6a, e6b⟩ := e6; subst v4; subst σ5
  refine g_invVV (as := [.inl (σ 14 6), .inl (σ 1 7)]) (rest := []) okX8_begin mlX6_86 (by decide) rfl ⟨_, _, rfl⟩ rfl ⟨Nat.le_of_ble_eq_true rfl, Nat.le_of_ble_eq_true rfl⟩ (Nat.le_of_ble_eq_true rfl) rfl dX6_choose_21 h rfl (fun σ8 e9 => ?_)
  have h := e9
  refine g_iconst dX6_choose_24 (by decide) ?_
  refine g_istore_n (ls' := [some (.inr 51), some (.inl x1), some (.inl 268435456), some (.inl 1), none, none, none]) dX6_choose_25 rfl (by decide) rfl ?_
  refine g_iconst dX6_choose_26 (by decide) ?_
  refine g_istore (ls' := [some (.inr 51), some (.inl x1), some (.inl 268435456), some (.inl 1), some (.inl 0), none, none]) dX6_choose_27 (by decide) rfl ?_
  exact h
set_option maxRecDepth 100000 in
theorem rX6_choose_29 {x1 x2 x3 x4 : Int}  {σ : Mem} {Q : Int → Mem → Prop} (h : (x3 = 0 → (x1 ≠ 0 → CM mX8_told [.inr 58] σ (fun v3 σ4 => ((0 ≤ x1) ∧ (((x1 < 4) ∧ (CM mX8_copy [.inr 55, .inr 58] (mu σ4 66 (x1).toNat v3) (fun _ σ12 => Q 0 σ12))))))) ∧ (x1 = 0 → (268435456 ≤ x2 → CM mX8_told [.inr 58] σ (fun v15 σ16 => ((0 ≤ x1) ∧ (((x1 < 4) ∧ (CM mX8_copy [.inr 55, .inr 58] (mu σ16 66 (x1).toNat v15) (fun _ σ24 => Q 0 σ24))))))) ∧ (x2 < 268435456 → CM mX8_told [.inr 58] (mu σ 51 9 x2) (fun v26 σ27 => ((0 ≤ x1) ∧ (((x1 < 4) ∧ (CM mX8_copy [.inr 55, .inr 58] (mu σ27 66 (x1).toNat v26) (fun _ σ35 => Q 0 σ35))))))))) ∧ (x3 ≠ 0 → (720 ≤ x4 → (x1 ≠ 0 → CM mX8_told [.inr 58] σ (fun v39 σ40 => ((0 ≤ x1) ∧ (((x1 < 4) ∧ (CM mX8_copy [.inr 55, .inr 58] (mu σ40 66 (x1).toNat v39) (fun _ σ48 => Q 0 σ48))))))) ∧ (x1 = 0 → (268435456 ≤ x2 → CM mX8_told [.inr 58] σ (fun v51 σ52 => ((0 ≤ x1) ∧ (((x1 < 4) ∧ (CM mX8_copy [.inr 55, .inr 58] (mu σ52 66 (x1).toNat v51) (fun _ σ60 => Q 0 σ60))))))) ∧ (x2 < 268435456 → CM mX8_told [.inr 58] (mu σ 51 9 x2) (fun v62 σ63 => ((0 ≤ x1) ∧ (((x1 < 4) ∧ (CM mX8_copy [.inr 55, .inr 58] (mu σ63 66 (x1).toNat v62) (fun _ σ71 => Q 0 σ71))))))))) ∧ (x4 < 720 → (x1 ≠ 0 → CM mX9_movedWeight [.inr 14, .inr 55, .inr 52] σ (fun v74 σ75 => ((inR (x1 * 720)) ∧ (((inR ((x1 * 720) + x4)) ∧ (((0 ≤ ((x1 * 720) + x4)) ∧ (((((x1 * 720) + x4) < 2880) ∧ (((inR ((σ75 62 (((x1 * 720) + x4)).toNat) + v74)) ∧ ((x2 ≤ ((σ75 62 (((x1 * 720) + x4)).toNat) + v74) → CM mX8_goOn [.inr 52, .inl (σ75 1 7)] σ75 (fun v89 σ90 => ((inR (x4 + 1)) ∧ (GO none mX6_choose 29 [some (.inr 51), some (.inl x1), some (.inl x2), some (.inl v89), some (.inl (x4 + 1)), none, none] [] σ90 Q)))) ∧ (((σ75 62 (((x1 * 720) + x4)).toNat) + v74) < x2 → CM mX8_copy [.inr 58, .inr 52] σ75 (fun _ σ94 => CM mX8_goOn [.inr 52, .inl (σ94 1 7)] σ94 (fun v99 σ100 => ((inR (x4 + 1)) ∧ (GO none mX6_choose 29 [some (.inr 51), some (.inl x1), some (.inl ((σ75 62 (((x1 * 720) + x4)).toNat) + v74)), some (.inl v99), some (.inl (x4 + 1)), none, none] [] σ100 Q))))))))))))))))) ∧ (x1 = 0 → ((inR (x1 * 720)) ∧ (((inR ((x1 * 720) + x4)) ∧ (((0 ≤ ((x1 * 720) + x4)) ∧ (((((x1 * 720) + x4) < 2880) ∧ (((inR ((σ 62 (((x1 * 720) + x4)).toNat) + 0)) ∧ ((x2 ≤ ((σ 62 (((x1 * 720) + x4)).toNat) + 0) → CM mX8_goOn [.inr 52, .inl (σ 1 7)] σ (fun v115 σ116 => ((inR (x4 + 1)) ∧ (GO none mX6_choose 29 [some (.inr 51), some (.inl x1), some (.inl x2), some (.inl v115), some (.inl (x4 + 1)), none, none] [] σ116 Q)))) ∧ (((σ 62 (((x1 * 720) + x4)).toNat) + 0) < x2 → CM mX8_copy [.inr 58, .inr 52] σ (fun _ σ120 => CM mX8_goOn [.inr 52, .inl (σ120 1 7)] σ120 (fun v125 σ126 => ((inR (x4 + 1)) ∧ (GO none mX6_choose 29 [some (.inr 51), some (.inl x1), some (.inl ((σ 62 (((x1 * 720) + x4)).toNat) + 0)), some (.inl v125), some (.inl (x4 + 1)), none, none] [] σ126 Q))))))))))))))))))) : GO none mX6_choose 29 [some (.inr 51), some (.inl x1), some (.inl x2), some (.inl x3), some (.inl x4), none, none] [] σ Q := by
  refine g_iload_n dX6_choose_29 rfl rfl ?_
  refine g_if_eq (tgt := 127) dX6_choose_30 (by decide) (fun c1 => ?_) (fun c1 => ?_)
  · have h := h.1 c1
    refine g_iload_n dX6_choose_127 rfl rfl ?_
    refine g_if_ne (tgt := 142) dX6_choose_128 (by decide) (fun c2 => ?_) (fun c2 => ?_)
    · have h := h.1 c2
      refine g_aload_n dX6_choose_142 rfl rfl ?_
      refine g_getR (r' := 65) flX6_36 (by decide) rfl (by decide) rfl dX6_choose_143 ?_
      refine g_iload_n dX6_choose_146 rfl rfl ?_
      refine g_aload_n dX6_choose_147 rfl rfl ?_
      refine g_getR (r' := 58) flX6_21 (by decide) rfl (by decide) rfl dX6_choose_148 ?_
      refine g_invVI (as := []) (rest := [.inl x1, .inr 65]) okX8_told mlX6_96 (by decide) rfl ⟨_, _, rfl⟩ rfl ⟨Nat.le_of_ble_eq_true rfl, Nat.le_of_ble_eq_true rfl⟩ (Nat.le_of_ble_eq_true rfl) rfl dX6_choose_151 h (Or.inl rfl) (fun v3 σ4 e5 => ?_)
      have h := e5
      obtain ⟨p6, h⟩ := h
      obtain ⟨p7, h⟩ := h
      refine g_invVV (as := [.inl x1, .inl v3]) (rest := []) okX7_set mlX6_106 (by decide) rfl ⟨_, _, rfl⟩ rfl ⟨Nat.le_of_ble_eq_true rfl, Nat.le_of_ble_eq_true rfl⟩ (Nat.le_of_ble_eq_true rfl) rfl dX6_choose_154 (c_X7_set ⟨by decide, by decide, rfl, rfl, rfl⟩ p6 p7) rfl (fun σ9 e10 => ?_)
      subst σ9
      refine g_aload_n dX6_choose_157 rfl rfl ?_
      refine g_getR (r' := 55) flX6_18 (by decide) rfl (by decide) rfl dX6_choose_158 ?_
      refine g_aload_n dX6_choose_161 rfl rfl ?_
      refine g_getR (r' := 58) flX6_21 (by decide) rfl (by decide) rfl dX6_choose_162 ?_
      refine g_invVV (as := [.inr 58]) (rest := []) okX8_copy mlX6_127 (by decide) rfl ⟨_, _, rfl⟩ rfl ⟨Nat.le_of_ble_eq_true rfl, Nat.le_of_ble_eq_true rfl⟩ (Nat.le_of_ble_eq_true rfl) rfl dX6_choose_165 h rfl (fun σ12 e13 => ?_)
      have h := e13
      exact g_return rfl dX6_choose_168 h
    · have h := h.2 c2
      refine g_iload_n dX6_choose_131 rfl rfl ?_
      refine g_ldc (n := 268435456) dX6_choose_132 kcX6_99 (by decide) (by decide) ?_
      refine g_icmp_ge (tgt := 142) dX6_choose_134 (by decide) (fun c14 => ?_) (fun c14 => ?_)
      · have h := h.1 c14
        refine g_aload_n dX6_choose_142 rfl rfl ?_
        refine g_getR (r' := 65) flX6_36 (by decide) rfl (by decide) rfl dX6_choose_143 ?_
        refine g_iload_n dX6_choose_146 rfl rfl ?_
        refine g_aload_n dX6_choose_147 rfl rfl ?_
        refine g_getR (r' := 58) flX6_21 (by decide) rfl (by decide) rfl dX6_choose_148 ?_
        refine g_invVI (as := []) (rest := [.inl x1, .inr 65]) okX8_told mlX6_96 (by decide) rfl ⟨_, _, rfl⟩ rfl ⟨Nat.le_of_ble_eq_true rfl, Nat.le_of_ble_eq_true rfl⟩ (Nat.le_of_ble_eq_true rfl) rfl dX6_choose_151 h (Or.inl rfl) (fun v15 σ16 e17 => ?_)
        have h := e17
        obtain ⟨p18, h⟩ := h
        obtain ⟨p19, h⟩ := h
        refine g_invVV (as := [.inl x1, .inl v15]) (rest := []) okX7_set mlX6_106 (by decide) rfl ⟨_, _, rfl⟩ rfl ⟨Nat.le_of_ble_eq_true rfl, Nat.le_of_ble_eq_true rfl⟩ (Nat.le_of_ble_eq_true rfl) rfl dX6_choose_154 (c_X7_set ⟨by decide, by decide, rfl, rfl, rfl⟩ p18 p19) rfl (fun σ21 e22 => ?_)
        subst σ21
        refine g_aload_n dX6_choose_157 rfl rfl ?_
        refine g_getR (r' := 55) flX6_18 (by decide) rfl (by decide) rfl dX6_choose_158 ?_
        refine g_aload_n dX6_choose_161 rfl rfl ?_
        refine g_getR (r' := 58) flX6_21 (by decide) rfl (by decide) rfl dX6_choose_162 ?_
        refine g_invVV (as := [.inr 58]) (rest := []) okX8_copy mlX6_127 (by decide) rfl ⟨_, _, rfl⟩ rfl ⟨Nat.le_of_ble_eq_true rfl, Nat.le_of_ble_eq_true rfl⟩ (Nat.le_of_ble_eq_true rfl) rfl dX6_choose_165 h rfl (fun σ24 e25 => ?_)
        have h := e25
        exact g_return rfl dX6_choose_168 h
      · have h := h.2 c14
        refine g_aload_n dX6_choose_137 rfl rfl ?_
        refine g_iload_n dX6_choose_138 rfl rfl ?_
        refine g_putI fpX6_39 (by decide) rfl (by decide) rfl (Or.inl rfl) dX6_choose_139 ?_
        refine g_aload_n dX6_choose_142 rfl rfl ?_
        refine g_getR (r' := 65) flX6_36 (by decide) rfl (by decide) rfl dX6_choose_143 ?_
        refine g_iload_n dX6_choose_146 rfl rfl ?_
        refine g_aload_n dX6_choose_147 rfl rfl ?_
        refine g_getR (r' := 58) flX6_21 (by decide) rfl (by decide) rfl dX6_choose_148 ?_
        refine g_invVI (as := []) (rest := [.inl x1, .inr 65]) okX8_told mlX6_96 (by decide) rfl ⟨_, _, rfl⟩ rfl ⟨Nat.le_of_ble_eq_true rfl, Nat.le_of_ble_eq_true rfl⟩ (Nat.le_of_ble_eq_true rfl) rfl dX6_choose_151 h (Or.inl rfl) (fun v26 σ27 e28 => ?_)
        have h := e28
        obtain ⟨p29, h⟩ := h
        obtain ⟨p30, h⟩ := h
        refine g_invVV (as := [.inl x1, .inl v26]) (rest := []) okX7_set mlX6_106 (by decide) rfl ⟨_, _, rfl⟩ rfl ⟨Nat.le_of_ble_eq_true rfl, Nat.le_of_ble_eq_true rfl⟩ (Nat.le_of_ble_eq_true rfl) rfl dX6_choose_154 (c_X7_set ⟨by decide, by decide, rfl, rfl, rfl⟩ p29 p30) rfl (fun σ32 e33 => ?_)
        subst σ32
        refine g_aload_n dX6_choose_157 rfl rfl ?_
        refine g_getR (r' := 55) flX6_18 (by decide) rfl (by decide) rfl dX6_choose_158 ?_
        refine g_aload_n dX6_choose_161 rfl rfl ?_
        refine g_getR (r' := 58) flX6_21 (by decide) rfl (by decide) rfl dX6_choose_162 ?_
        refine g_invVV (as := [.inr 58]) (rest := []) okX8_copy mlX6_127 (by decide) rfl ⟨_, _, rfl⟩ rfl ⟨Nat.le_of_ble_eq_true rfl, Nat.le_of_ble_eq_true rfl⟩ (Nat.le_of_ble_eq_true rfl) rfl dX6_choose_165 h rfl (fun σ35 e36 => ?_)
        have h := e36
        exact g_return rfl dX6_choose_168 h
  · have h := h.2 c1
    refine g_iload dX6_choose_33 rfl ?_
    refine g_sipush dX6_choose_35 (by decide) (by decide) ?_
    refine g_icmp_ge (tgt := 127) dX6_choose_38 (by decide) (fun c37 => ?_) (fun c37 => ?_)
    · have h := h.1 c37
      refine g_iload_n dX6_choose_127 rfl rfl ?_
      refine g_if_ne (tgt := 142) dX6_choose_128 (by decide) (fun c38 => ?_) (fun c38 => ?_)
      · have h := h.1 c38
        refine g_aload_n dX6_choose_142 rfl rfl ?_
        refine g_getR (r' := 65) flX6_36 (by decide) rfl (by decide) rfl dX6_choose_143 ?_
        refine g_iload_n dX6_choose_146 rfl rfl ?_
        refine g_aload_n dX6_choose_147 rfl rfl ?_
        refine g_getR (r' := 58) flX6_21 (by decide) rfl (by decide) rfl dX6_choose_148 ?_
        refine g_invVI (as := []) (rest := [.inl x1, .inr 65]) okX8_told mlX6_96 (by decide) rfl ⟨_, _, rfl⟩ rfl ⟨Nat.le_of_ble_eq_true rfl, Nat.le_of_ble_eq_true rfl⟩ (Nat.le_of_ble_eq_true rfl) rfl dX6_choose_151 h (Or.inl rfl) (fun v39 σ40 e41 => ?_)
        have h := e41
        obtain ⟨p42, h⟩ := h
        obtain ⟨p43, h⟩ := h
        refine g_invVV (as := [.inl x1, .inl v39]) (rest := []) okX7_set mlX6_106 (by decide) rfl ⟨_, _, rfl⟩ rfl ⟨Nat.le_of_ble_eq_true rfl, Nat.le_of_ble_eq_true rfl⟩ (Nat.le_of_ble_eq_true rfl) rfl dX6_choose_154 (c_X7_set ⟨by decide, by decide, rfl, rfl, rfl⟩ p42 p43) rfl (fun σ45 e46 => ?_)
        subst σ45
        refine g_aload_n dX6_choose_157 rfl rfl ?_
        refine g_getR (r' := 55) flX6_18 (by decide) rfl (by decide) rfl dX6_choose_158 ?_
        refine g_aload_n dX6_choose_161 rfl rfl ?_
        refine g_getR (r' := 58) flX6_21 (by decide) rfl (by decide) rfl dX6_choose_162 ?_
        refine g_invVV (as := [.inr 58]) (rest := []) okX8_copy mlX6_127 (by decide) rfl ⟨_, _, rfl⟩ rfl ⟨Nat.le_of_ble_eq_true rfl, Nat.le_of_ble_eq_true rfl⟩ (Nat.le_of_ble_eq_true rfl) rfl dX6_choose_165 h rfl (fun σ48 e49 => ?_)
        have h := e49
        exact g_return rfl dX6_choose_168 h
      · have h := h.2 c38
        refine g_iload_n dX6_choose_131 rfl rfl ?_
        refine g_ldc (n := 268435456) dX6_choose_132 kcX6_99 (by decide) (by decide) ?_
        refine g_icmp_ge (tgt := 142) dX6_choose_134 (by decide) (fun c50 => ?_) (fun c50 => ?_)
        · have h := h.1 c50
          refine g_aload_n dX6_choose_142 rfl rfl ?_
          refine g_getR (r' := 65) flX6_36 (by decide) rfl (by decide) rfl dX6_choose_143 ?_
          refine g_iload_n dX6_choose_146 rfl rfl ?_
          refine g_aload_n dX6_choose_147 rfl rfl ?_
          refine g_getR (r' := 58) flX6_21 (by decide) rfl (by decide) rfl dX6_choose_148 ?_
          refine g_invVI (as := []) (rest := [.inl x1, .inr 65]) okX8_told mlX6_96 (by decide) rfl ⟨_, _, rfl⟩ rfl ⟨Nat.le_of_ble_eq_true rfl, Nat.le_of_ble_eq_true rfl⟩ (Nat.le_of_ble_eq_true rfl) rfl dX6_choose_151 h (Or.inl rfl) (fun v51 σ52 e53 => ?_)
          have h := e53
          obtain ⟨p54, h⟩ := h
          obtain ⟨p55, h⟩ := h
          refine g_invVV (as := [.inl x1, .inl v51]) (rest := []) okX7_set mlX6_106 (by decide) rfl ⟨_, _, rfl⟩ rfl ⟨Nat.le_of_ble_eq_true rfl, Nat.le_of_ble_eq_true rfl⟩ (Nat.le_of_ble_eq_true rfl) rfl dX6_choose_154 (c_X7_set ⟨by decide, by decide, rfl, rfl, rfl⟩ p54 p55) rfl (fun σ57 e58 => ?_)
          subst σ57
          refine g_aload_n dX6_choose_157 rfl rfl ?_
          refine g_getR (r' := 55) flX6_18 (by decide) rfl (by decide) rfl dX6_choose_158 ?_
          refine g_aload_n dX6_choose_161 rfl rfl ?_
          refine g_getR (r' := 58) flX6_21 (by decide) rfl (by decide) rfl dX6_choose_162 ?_
          refine g_invVV (as := [.inr 58]) (rest := []) okX8_copy mlX6_127 (by decide) rfl ⟨_, _, rfl⟩ rfl ⟨Nat.le_of_ble_eq_true rfl, Nat.le_of_ble_eq_true rfl⟩ (Nat.le_of_ble_eq_true rfl) rfl dX6_choose_165 h rfl (fun σ60 e61 => ?_)
          have h := e61
          exact g_return rfl dX6_choose_168 h
        · have h := h.2 c50
          refine g_aload_n dX6_choose_137 rfl rfl ?_
          refine g_iload_n dX6_choose_138 rfl rfl ?_
          refine g_putI fpX6_39 (by decide) rfl (by decide) rfl (Or.inl rfl) dX6_choose_139 ?_
          refine g_aload_n dX6_choose_142 rfl rfl ?_
          refine g_getR (r' := 65) flX6_36 (by decide) rfl (by decide) rfl dX6_choose_143 ?_
          refine g_iload_n dX6_choose_146 rfl rfl ?_
          refine g_aload_n dX6_choose_147 rfl rfl ?_
          refine g_getR (r' := 58) flX6_21 (by decide) rfl (by decide) rfl dX6_choose_148 ?_
          refine g_invVI (as := []) (rest := [.inl x1, .inr 65]) okX8_told mlX6_96 (by decide) rfl ⟨_, _, rfl⟩ rfl ⟨Nat.le_of_ble_eq_true rfl, Nat.le_of_ble_eq_true rfl⟩ (Nat.le_of_ble_eq_true rfl) rfl dX6_choose_151 h (Or.inl rfl) (fun v62 σ63 e64 => ?_)
          have h := e64
          obtain ⟨p65, h⟩ := h
          obtain ⟨p66, h⟩ := h
          refine g_invVV (as := [.inl x1, .inl v62]) (rest := []) okX7_set mlX6_106 (by decide) rfl ⟨_, _, rfl⟩ rfl ⟨Nat.le_of_ble_eq_true rfl, Nat.le_of_ble_eq_true rfl⟩ (Nat.le_of_ble_eq_true rfl) rfl dX6_choose_154 (c_X7_set ⟨by decide, by decide, rfl, rfl, rfl⟩ p65 p66) rfl (fun σ68 e69 => ?_)
          subst σ68
          refine g_aload_n dX6_choose_157 rfl rfl ?_
          refine g_getR (r' := 55) flX6_18 (by decide) rfl (by decide) rfl dX6_choose_158 ?_
          refine g_aload_n dX6_choose_161 rfl rfl ?_
          refine g_getR (r' := 58) flX6_21 (by decide) rfl (by decide) rfl dX6_choose_162 ?_
          refine g_invVV (as := [.inr 58]) (rest := []) okX8_copy mlX6_127 (by decide) rfl ⟨_, _, rfl⟩ rfl ⟨Nat.le_of_ble_eq_true rfl, Nat.le_of_ble_eq_true rfl⟩ (Nat.le_of_ble_eq_true rfl) rfl dX6_choose_165 h rfl (fun σ71 e72 => ?_)
          have h := e72
          exact g_return rfl dX6_choose_168 h
    · have h := h.2 c37
      refine g_iload_n dX6_choose_41 rfl rfl ?_
      refine g_if_ne (tgt := 49) dX6_choose_42 (by decide) (fun c73 => ?_) (fun c73 => ?_)
      · have h := h.1 c73
        refine g_aload_n dX6_choose_49 rfl rfl ?_
        refine g_getR (r' := 14) flX6_50 (by decide) rfl (by decide) rfl dX6_choose_50 ?_
        refine g_aload_n dX6_choose_53 rfl rfl ?_
        refine g_getR (r' := 55) flX6_18 (by decide) rfl (by decide) rfl dX6_choose_54 ?_
        refine g_aload_n dX6_choose_57 rfl rfl ?_
        refine g_getR (r' := 52) flX6_12 (by decide) rfl (by decide) rfl dX6_choose_58 ?_
        refine g_invVI (as := [.inr 55, .inr 52]) (rest := []) okX9_movedWeight mlX6_123 (by decide) rfl ⟨_, _, rfl⟩ rfl ⟨Nat.le_of_ble_eq_true rfl, Nat.le_of_ble_eq_true rfl⟩ (Nat.le_of_ble_eq_true rfl) rfl dX6_choose_61 h (Or.inl rfl) (fun v74 σ75 e76 => ?_)
        have h := e76
        refine g_istore (ls' := [some (.inr 51), some (.inl x1), some (.inl x2), some (.inl x3), some (.inl x4), some (.inl v74), none]) dX6_choose_64 (by decide) rfl ?_
        refine g_aload_n dX6_choose_66 rfl rfl ?_
        refine g_getR (r' := 61) flX6_29 (by decide) rfl (by decide) rfl dX6_choose_67 ?_
        refine g_iload_n dX6_choose_70 rfl rfl ?_
        refine g_sipush dX6_choose_71 (by decide) (by decide) ?_
        obtain ⟨p77, h⟩ := h
        refine g_imul dX6_choose_74 p77 ?_
        refine g_iload dX6_choose_75 rfl ?_
        obtain ⟨p78, h⟩ := h
        refine g_iadd dX6_choose_77 p78 ?_
        obtain ⟨p79, h⟩ := h
        obtain ⟨p80, h⟩ := h
        refine g_invVI (as := [.inl ((x1 * 720) + x4)]) (rest := []) okX7_get mlX6_58 (by decide) rfl ⟨_, _, rfl⟩ rfl ⟨Nat.le_of_ble_eq_true rfl, Nat.le_of_ble_eq_true rfl⟩ (Nat.le_of_ble_eq_true rfl) rfl dX6_choose_78 (c_X7_get ⟨by decide, by decide, rfl, rfl, rfl⟩ p79 p80) (Or.inl rfl) (fun v81 σ82 e83 => ?_)
        obtain ⟨e83a, e83b⟩ := e83; subst v81; subst σ82
        refine g_iload dX6_choose_81 rfl ?_
        obtain ⟨p84, h⟩ := h
        refine g_iadd dX6_choose_83 p84 ?_
        refine g_istore (ls' := [some (.inr 51), some (.inl x1), some (.inl x2), some (.inl x3), some (.inl x4), some (.inl v74), some (.inl ((σ75 62 (((x1 * 720) + x4)).toNat) + v74))]) dX6_choose_84 (by decide) rfl ?_
        refine g_iload dX6_choose_86 rfl ?_
        refine g_iload_n dX6_choose_88 rfl rfl ?_
        refine g_icmp_ge (tgt := 106) dX6_choose_89 (by decide) (fun c85 => ?_) (fun c85 => ?_)
        · have h := h.1 c85
          refine g_aload_n dX6_choose_106 rfl rfl ?_
          refine g_getR (r' := 52) flX6_12 (by decide) rfl (by decide) rfl dX6_choose_107 ?_
          refine g_aload_n dX6_choose_110 rfl rfl ?_
          refine g_getR (r' := 1) flX6_46 (by decide) rfl (by decide) rfl dX6_choose_111 ?_
          refine g_invVI (as := []) (rest := [.inr 52]) okX2_slots mlX6_81 (by decide) rfl ⟨_, _, rfl⟩ rfl ⟨Nat.le_of_ble_eq_true rfl, Nat.le_of_ble_eq_true rfl⟩ (Nat.le_of_ble_eq_true rfl) rfl dX6_choose_114 (c_X2_slots) (Or.inl rfl) (fun v86 σ87 e88 => ?_)
          obtain ⟨e88a, e88b⟩ := e88; subst v86; subst σ87
          refine g_invVI (as := [.inl (σ75 1 7)]) (rest := []) okX8_goOn mlX6_109 (by decide) rfl ⟨_, _, rfl⟩ rfl ⟨Nat.le_of_ble_eq_true rfl, Nat.le_of_ble_eq_true rfl⟩ (Nat.le_of_ble_eq_true rfl) rfl dX6_choose_117 h (Or.inr rfl) (fun v89 σ90 e91 => ?_)
          have h := e91
          refine g_istore_n (ls' := [some (.inr 51), some (.inl x1), some (.inl x2), some (.inl v89), some (.inl x4), some (.inl v74), some (.inl ((σ75 62 (((x1 * 720) + x4)).toNat) + v74))]) dX6_choose_120 rfl (by decide) rfl ?_
          obtain ⟨p92, h⟩ := h
          refine g_iinc (ls' := [some (.inr 51), some (.inl x1), some (.inl x2), some (.inl v89), some (.inl (x4 + 1)), some (.inl v74), some (.inl ((σ75 62 (((x1 * 720) + x4)).toNat) + v74))]) dX6_choose_121 (by decide) rfl p92 rfl ?_
          refine g_goto (tgt := 29) dX6_choose_124 (by decide) ?_
          refine g_kill (i := 5) (ls' := [some (.inr 51), some (.inl x1), some (.inl x2), some (.inl v89), some (.inl (x4 + 1)), none, some (.inl ((σ75 62 (((x1 * 720) + x4)).toNat) + v74))]) rfl ?_
          refine g_kill (i := 6) (ls' := [some (.inr 51), some (.inl x1), some (.inl x2), some (.inl v89), some (.inl (x4 + 1)), none, none]) rfl ?_
          exact h
        · have h := h.2 c85
          refine g_iload dX6_choose_92 rfl ?_
          refine g_istore_n (ls' := [some (.inr 51), some (.inl x1), some (.inl ((σ75 62 (((x1 * 720) + x4)).toNat) + v74)), some (.inl x3), some (.inl x4), some (.inl v74), some (.inl ((σ75 62 (((x1 * 720) + x4)).toNat) + v74))]) dX6_choose_94 rfl (by decide) rfl ?_
          refine g_aload_n dX6_choose_95 rfl rfl ?_
          refine g_getR (r' := 58) flX6_21 (by decide) rfl (by decide) rfl dX6_choose_96 ?_
          refine g_aload_n dX6_choose_99 rfl rfl ?_
          refine g_getR (r' := 52) flX6_12 (by decide) rfl (by decide) rfl dX6_choose_100 ?_
          refine g_invVV (as := [.inr 52]) (rest := []) okX8_copy mlX6_127 (by decide) rfl ⟨_, _, rfl⟩ rfl ⟨Nat.le_of_ble_eq_true rfl, Nat.le_of_ble_eq_true rfl⟩ (Nat.le_of_ble_eq_true rfl) rfl dX6_choose_103 h rfl (fun σ94 e95 => ?_)
          have h := e95
          refine g_aload_n dX6_choose_106 rfl rfl ?_
          refine g_getR (r' := 52) flX6_12 (by decide) rfl (by decide) rfl dX6_choose_107 ?_
          refine g_aload_n dX6_choose_110 rfl rfl ?_
          refine g_getR (r' := 1) flX6_46 (by decide) rfl (by decide) rfl dX6_choose_111 ?_
          refine g_invVI (as := []) (rest := [.inr 52]) okX2_slots mlX6_81 (by decide) rfl ⟨_, _, rfl⟩ rfl ⟨Nat.le_of_ble_eq_true rfl, Nat.le_of_ble_eq_true rfl⟩ (Nat.le_of_ble_eq_true rfl) rfl dX6_choose_114 (c_X2_slots) (Or.inl rfl) (fun v96 σ97 e98 => ?_)
          obtain ⟨e98a, e98b⟩ := e98; subst v96; subst σ97
          refine g_invVI (as := [.inl (σ94 1 7)]) (rest := []) okX8_goOn mlX6_109 (by decide) rfl ⟨_, _, rfl⟩ rfl ⟨Nat.le_of_ble_eq_true rfl, Nat.le_of_ble_eq_true rfl⟩ (Nat.le_of_ble_eq_true rfl) rfl dX6_choose_117 h (Or.inr rfl) (fun v99 σ100 e101 => ?_)
          have h := e101
          refine g_istore_n (ls' := [some (.inr 51), some (.inl x1), some (.inl ((σ75 62 (((x1 * 720) + x4)).toNat) + v74)), some (.inl v99), some (.inl x4), some (.inl v74), some (.inl ((σ75 62 (((x1 * 720) + x4)).toNat) + v74))]) dX6_choose_120 rfl (by decide) rfl ?_
          obtain ⟨p102, h⟩ := h
          refine g_iinc (ls' := [some (.inr 51), some (.inl x1), some (.inl ((σ75 62 (((x1 * 720) + x4)).toNat) + v74)), some (.inl v99), some (.inl (x4 + 1)), some (.inl v74), some (.inl ((σ75 62 (((x1 * 720) + x4)).toNat) + v74))]) dX6_choose_121 (by decide) rfl p102 rfl ?_
          refine g_goto (tgt := 29) dX6_choose_124 (by decide) ?_
          refine g_kill (i := 5) (ls' := [some (.inr 51), some (.inl x1), some (.inl ((σ75 62 (((x1 * 720) + x4)).toNat) + v74)), some (.inl v99), some (.inl (x4 + 1)), none, some (.inl ((σ75 62 (((x1 * 720) + x4)).toNat) + v74))]) rfl ?_
          refine g_kill (i := 6) (ls' := [some (.inr 51), some (.inl x1), some (.inl ((σ75 62 (((x1 * 720) + x4)).toNat) + v74)), some (.inl v99), some (.inl (x4 + 1)), none, none]) rfl ?_
          exact h
      · have h := h.2 c73
        refine g_iconst dX6_choose_45 (by decide) ?_
        refine g_goto (tgt := 64) dX6_choose_46 (by decide) ?_
        refine g_istore (ls' := [some (.inr 51), some (.inl x1), some (.inl x2), some (.inl x3), some (.inl x4), some (.inl 0), none]) dX6_choose_64 (by decide) rfl ?_
        refine g_aload_n dX6_choose_66 rfl rfl ?_
        refine g_getR (r' := 61) flX6_29 (by decide) rfl (by decide) rfl dX6_choose_67 ?_
        refine g_iload_n dX6_choose_70 rfl rfl ?_
        refine g_sipush dX6_choose_71 (by decide) (by decide) ?_
        obtain ⟨p103, h⟩ := h
        refine g_imul dX6_choose_74 p103 ?_
        refine g_iload dX6_choose_75 rfl ?_
        obtain ⟨p104, h⟩ := h
        refine g_iadd dX6_choose_77 p104 ?_
        obtain ⟨p105, h⟩ := h
        obtain ⟨p106, h⟩ := h
        refine g_invVI (as := [.inl ((x1 * 720) + x4)]) (rest := []) okX7_get mlX6_58 (by decide) rfl ⟨_, _, rfl⟩ rfl ⟨Nat.le_of_ble_eq_true rfl, Nat.le_of_ble_eq_true rfl⟩ (Nat.le_of_ble_eq_true rfl) rfl dX6_choose_78 (c_X7_get ⟨by decide, by decide, rfl, rfl, rfl⟩ p105 p106) (Or.inl rfl) (fun v107 σ108 e109 => ?_)
        obtain ⟨e109a, e109b⟩ := e109; subst v107; subst σ108
        refine g_iload dX6_choose_81 rfl ?_
        obtain ⟨p110, h⟩ := h
        refine g_iadd dX6_choose_83 p110 ?_
        refine g_istore (ls' := [some (.inr 51), some (.inl x1), some (.inl x2), some (.inl x3), some (.inl x4), some (.inl 0), some (.inl ((σ 62 (((x1 * 720) + x4)).toNat) + 0))]) dX6_choose_84 (by decide) rfl ?_
        refine g_iload dX6_choose_86 rfl ?_
        refine g_iload_n dX6_choose_88 rfl rfl ?_
        refine g_icmp_ge (tgt := 106) dX6_choose_89 (by decide) (fun c111 => ?_) (fun c111 => ?_)
        · have h := h.1 c111
          refine g_aload_n dX6_choose_106 rfl rfl ?_
          refine g_getR (r' := 52) flX6_12 (by decide) rfl (by decide) rfl dX6_choose_107 ?_
          refine g_aload_n dX6_choose_110 rfl rfl ?_
          refine g_getR (r' := 1) flX6_46 (by decide) rfl (by decide) rfl dX6_choose_111 ?_
          refine g_invVI (as := []) (rest := [.inr 52]) okX2_slots mlX6_81 (by decide) rfl ⟨_, _, rfl⟩ rfl ⟨Nat.le_of_ble_eq_true rfl, Nat.le_of_ble_eq_true rfl⟩ (Nat.le_of_ble_eq_true rfl) rfl dX6_choose_114 (c_X2_slots) (Or.inl rfl) (fun v112 σ113 e114 => ?_)
          obtain ⟨e114a, e114b⟩ := e114; subst v112; subst σ113
          refine g_invVI (as := [.inl (σ 1 7)]) (rest := []) okX8_goOn mlX6_109 (by decide) rfl ⟨_, _, rfl⟩ rfl ⟨Nat.le_of_ble_eq_true rfl, Nat.le_of_ble_eq_true rfl⟩ (Nat.le_of_ble_eq_true rfl) rfl dX6_choose_117 h (Or.inr rfl) (fun v115 σ116 e117 => ?_)
          have h := e117
          refine g_istore_n (ls' := [some (.inr 51), some (.inl x1), some (.inl x2), some (.inl v115), some (.inl x4), some (.inl 0), some (.inl ((σ 62 (((x1 * 720) + x4)).toNat) + 0))]) dX6_choose_120 rfl (by decide) rfl ?_
          obtain ⟨p118, h⟩ := h
          refine g_iinc (ls' := [some (.inr 51), some (.inl x1), some (.inl x2), some (.inl v115), some (.inl (x4 + 1)), some (.inl 0), some (.inl ((σ 62 (((x1 * 720) + x4)).toNat) + 0))]) dX6_choose_121 (by decide) rfl p118 rfl ?_
          refine g_goto (tgt := 29) dX6_choose_124 (by decide) ?_
          refine g_kill (i := 5) (ls' := [some (.inr 51), some (.inl x1), some (.inl x2), some (.inl v115), some (.inl (x4 + 1)), none, some (.inl ((σ 62 (((x1 * 720) + x4)).toNat) + 0))]) rfl ?_
          refine g_kill (i := 6) (ls' := [some (.inr 51), some (.inl x1), some (.inl x2), some (.inl v115), some (.inl (x4 + 1)), none, none]) rfl ?_
          exact h
        · have h := h.2 c111
          refine g_iload dX6_choose_92 rfl ?_
          refine g_istore_n (ls' := [some (.inr 51), some (.inl x1), some (.inl ((σ 62 (((x1 * 720) + x4)).toNat) + 0)), some (.inl x3), some (.inl x4), some (.inl 0), some (.inl ((σ 62 (((x1 * 720) + x4)).toNat) + 0))]) dX6_choose_94 rfl (by decide) rfl ?_
          refine g_aload_n dX6_choose_95 rfl rfl ?_
          refine g_getR (r' := 58) flX6_21 (by decide) rfl (by decide) rfl dX6_choose_96 ?_
          refine g_aload_n dX6_choose_99 rfl rfl ?_
          refine g_getR (r' := 52) flX6_12 (by decide) rfl (by decide) rfl dX6_choose_100 ?_
          refine g_invVV (as := [.inr 52]) (rest := []) okX8_copy mlX6_127 (by decide) rfl ⟨_, _, rfl⟩ rfl ⟨Nat.le_of_ble_eq_true rfl, Nat.le_of_ble_eq_true rfl⟩ (Nat.le_of_ble_eq_true rfl) rfl dX6_choose_103 h rfl (fun σ120 e121 => ?_)
          have h := e121
          refine g_aload_n dX6_choose_106 rfl rfl ?_
          refine g_getR (r' := 52) flX6_12 (by decide) rfl (by decide) rfl dX6_choose_107 ?_
          refine g_aload_n dX6_choose_110 rfl rfl ?_
          refine g_getR (r' := 1) flX6_46 (by decide) rfl (by decide) rfl dX6_choose_111 ?_
          refine g_invVI (as := []) (rest := [.inr 52]) okX2_slots mlX6_81 (by decide) rfl ⟨_, _, rfl⟩ rfl ⟨Nat.le_of_ble_eq_true rfl, Nat.le_of_ble_eq_true rfl⟩ (Nat.le_of_ble_eq_true rfl) rfl dX6_choose_114 (c_X2_slots) (Or.inl rfl) (fun v122 σ123 e124 => ?_)
          obtain ⟨e124a, e124b⟩ := e124; subst v122; subst σ123
          refine g_invVI (as := [.inl (σ120 1 7)]) (rest := []) okX8_goOn mlX6_109 (by decide) rfl ⟨_, _, rfl⟩ rfl ⟨Nat.le_of_ble_eq_true rfl, Nat.le_of_ble_eq_true rfl⟩ (Nat.le_of_ble_eq_true rfl) rfl dX6_choose_117 h (Or.inr rfl) (fun v125 σ126 e127 => ?_)
          have h := e127
          refine g_istore_n (ls' := [some (.inr 51), some (.inl x1), some (.inl ((σ 62 (((x1 * 720) + x4)).toNat) + 0)), some (.inl v125), some (.inl x4), some (.inl 0), some (.inl ((σ 62 (((x1 * 720) + x4)).toNat) + 0))]) dX6_choose_120 rfl (by decide) rfl ?_
          obtain ⟨p128, h⟩ := h
          refine g_iinc (ls' := [some (.inr 51), some (.inl x1), some (.inl ((σ 62 (((x1 * 720) + x4)).toNat) + 0)), some (.inl v125), some (.inl (x4 + 1)), some (.inl 0), some (.inl ((σ 62 (((x1 * 720) + x4)).toNat) + 0))]) dX6_choose_121 (by decide) rfl p128 rfl ?_
          refine g_goto (tgt := 29) dX6_choose_124 (by decide) ?_
          refine g_kill (i := 5) (ls' := [some (.inr 51), some (.inl x1), some (.inl ((σ 62 (((x1 * 720) + x4)).toNat) + 0)), some (.inl v125), some (.inl (x4 + 1)), none, some (.inl ((σ 62 (((x1 * 720) + x4)).toNat) + 0))]) rfl ?_
          refine g_kill (i := 6) (ls' := [some (.inr 51), some (.inl x1), some (.inl ((σ 62 (((x1 * 720) + x4)).toNat) + 0)), some (.inl v125), some (.inl (x4 + 1)), none, none]) rfl ?_
          exact h
theorem c_X6_choose {D : Dt} {y : Nat} {x1 : Int} {g : List Nat → Int} {c0 : List Nat} {σ : Mem} (hw : WF D) (hD : CD D σ) (hy : y < 4) (e1 : x1 = y) (hg : OnR D y g σ) (hgb : ∀ p ∈ pE D, 0 ≤ g p ∧ g p ≤ 268435456) (hc0 : hld σ 60 c0) (hl0 : σ 58 1 = c0.length) (hg0 : gd c0) : CM mX6_choose [.inr 51, .inl x1] σ (fun _ σ1 => chQ D y ((pE D).foldl (chS (fun p => g p + mvB D y (σ 57) p)) (268435456, c0)) σ σ1) := by
  subst e1
  have hn := hw.1
  have hm := hw.2.1
  have hmn := hw.2.2.1
  have hEl := pE_len hw
  -- the end
  have tail : ∀ (c : List Nat) (σ0 : Mem) (P : Mem → Prop), hld σ0 60 c → σ0 58 1 = c.length → gd c → (∀ σ1, hld σ1 60 c → σ1 58 1 = c.length → hld σ1 57 c → σ1 55 1 = c.length → σ1 66 y = tld c → (∀ t, t ≠ y → σ1 66 t = σ0 66 t) → Same [55, 57, 66] σ0 σ1 → P σ1) → CM mX8_told [.inr 58] σ0 (fun v3 σ4 => 0 ≤ (y : Int) ∧ (y : Int) < 4 ∧ CM mX8_copy [.inr 55, .inr 58] (mu σ4 66 (y : Int).toNat v3) (fun _ σ12 => P σ12)) := by
    intro c σ0 P h1 h2 h3 h4
    refine CM.mono (fun v σ4 h => ?_) (c_X8_told (k := 58) seats58 h1 h2 h3.1 h3.2)
    obtain ⟨rfl, rfl⟩ := h
    rw [Int.toNat_natCast]
    refine ⟨by omega, by omega, ?_⟩
    refine CM.mono (fun v σ12 h => ?_) (c_X8_copy (k := 55) (j := 58) (p := c) seats55 seats58 (by decide) (h1.cong (mu_nef (by decide))) (by rw [mu_nef (by decide)]; exact h2) h3.1)
    obtain ⟨q1, q2, q3⟩ := h
    refine h4 σ12 ?_ ?_ q2 q1 ?_ ?_ ((Same.mu (by decide)).tr (q3.wk (by decide)))
    · exact h1.cong (by rw [q3 60 (by decide), mu_nef (by decide)])
    · rw [q3 58 (by decide), mu_nef (by decide)]; exact h2
    · rw [q3 66 (by decide), mu_at, if_pos rfl]
    · intro t ht
      rw [q3 66 (by decide), mu_at, if_neg ht]
  have key : ∀ (f i : Nat) (p : List Nat) (s : Int × List Nat) (σ0 : Mem), i + f = 720 → p.length = dm D → okP (dn D) p → (pE D).drop i = walkN (dn D) f p → hld σ0 54 p → σ0 52 1 = p.length → CD D σ0 → hld σ0 60 s.2 → σ0 58 1 = s.2.length → gd s.2 → s.1 ≤ 268435456 → Same [52, 54, 58, 60] σ σ0 →
      GO none mX6_choose 29 [some (.inr 51), some (.inl (y : Int)), some (.inl s.1), some (.inl 1), some (.inl (i : Int)), none, none] [] σ0 (fun _ σ1 => chQ D y (((pE D).drop i).foldl (chS (fun p => g p + mvB D y (σ 57) p)) s) σ σ1) := by
    have fin : ∀ (s : Int × List Nat) (σ0 : Mem), hld σ0 60 s.2 → σ0 58 1 = s.2.length → gd s.2 → s.1 ≤ 268435456 → Same [52, 54, 58, 60] σ σ0 → ((y : Int) ≠ 0 → CM mX8_told [.inr 58] σ0 (fun v3 σ4 => 0 ≤ (y : Int) ∧ (y : Int) < 4 ∧ CM mX8_copy [.inr 55, .inr 58] (mu σ4 66 (y : Int).toNat v3) (fun _ σ12 => chQ D y s σ σ12))) ∧ ((y : Int) = 0 → (268435456 ≤ s.1 → CM mX8_told [.inr 58] σ0 (fun v3 σ4 => 0 ≤ (y : Int) ∧ (y : Int) < 4 ∧ CM mX8_copy [.inr 55, .inr 58] (mu σ4 66 (y : Int).toNat v3) (fun _ σ12 => chQ D y s σ σ12))) ∧ (s.1 < 268435456 → CM mX8_told [.inr 58] (mu σ0 51 9 s.1) (fun v3 σ4 => 0 ≤ (y : Int) ∧ (y : Int) < 4 ∧ CM mX8_copy [.inr 55, .inr 58] (mu σ4 66 (y : Int).toNat v3) (fun _ σ12 => chQ D y s σ σ12)))) := by
      intro s σ0 h1 h2 h3 h4 hS
      have plain : ¬ (y = 0 ∧ s.1 < 268435456) → CM mX8_told [.inr 58] σ0 (fun v3 σ4 => 0 ≤ (y : Int) ∧ (y : Int) < 4 ∧ CM mX8_copy [.inr 55, .inr 58] (mu σ4 66 (y : Int).toNat v3) (fun _ σ12 => chQ D y s σ σ12)) := fun hno => by
        refine tail s.2 σ0 _ h1 h2 h3 (fun σ1 q1 q2 q3 q4 q5 q6 q7 => ⟨q1, q2, q3, q4, q5, fun t ht => by rw [q6 t ht, hS 66 (by decide)], ?_, (hS.wk (by decide)).tr (q7.wk (by decide))⟩)
        rw [if_neg hno, q7 51 (by decide), hS 51 (by decide)]
      refine ⟨fun h => plain (by omega), fun h => ⟨fun h5 => plain (by omega), fun h5 => ?_⟩⟩
      refine tail s.2 _ _ (h1.cong (mu_nef (by decide))) (by rw [mu_nef (by decide)]; exact h2) h3 (fun σ1 q1 q2 q3 q4 q5 q6 q7 => ⟨q1, q2, q3, q4, q5, fun t ht => by rw [q6 t ht, mu_nef (by decide), hS 66 (by decide)], ?_, ((hS.wk (by decide)).tr (Same.mu (by decide))).tr (q7.wk (by decide))⟩)
      rw [if_pos ⟨by omega, h5⟩, q7 51 (by decide), mu_f, hS 51 (by decide)]
    intro f
    induction f with
    | zero =>
      intro i p s σ0 hi hl ho hdr hp hc hD0 h1 h2 h3 h4 hS
      have e0 : (pE D).drop i = [] := hdr
      rw [e0]
      exact rX6_choose_29 ⟨fun h => by omega, fun _ => ⟨fun _ => fin s σ0 h1 h2 h3 h4 hS, fun h => by omega⟩⟩
    | succ f ih =>
      intro i p s σ0 hi hl ho hdr hp hc hD0 h1 h2 h3 h4 hS
      obtain ⟨hiE, heq, hrest⟩ := drop_walk hdr
      have hpE : p ∈ pE D := by rw [← heq]; exact List.getElem_mem hiE
      have hdl := pE_dl hw hpE
      have hgp := hgb p hpE
      have efold : ((pE D).drop i).foldl (chS (fun p => g p + mvB D y (σ 57) p)) s = ((pE D).drop (i + 1)).foldl (chS (fun p => g p + mvB D y (σ 57) p)) (chS (fun p => g p + mvB D y (σ 57) p) s p) := by
        rw [List.drop_eq_getElem_cons hiE, List.foldl_cons, heq]
      rw [efold]
      -- behind the comparison
      have next : ∀ (s2 : Int × List Nat) (σ8 : Mem), CD D σ8 → hld σ8 54 p → σ8 52 1 = p.length → hld σ8 60 s2.2 → σ8 58 1 = s2.2.length → gd s2.2 → s2.1 ≤ 268435456 → Same [52, 54, 58, 60] σ σ8 → CM mX8_goOn [.inr 52, .inl (σ8 1 7)] σ8 (fun v89 σ90 => (inR ((i : Int) + 1)) ∧ (GO none mX6_choose 29 [some (.inr 51), some (.inl (y : Int)), some (.inl s2.1), some (.inl v89), some (.inl ((i : Int) + 1)), none, none] [] σ90 (fun _ σ1 => chQ D y (((pE D).drop (i + 1)).foldl (chS (fun p => g p + mvB D y (σ 57) p)) s2) σ σ1))) := by
        intro s2 σ8 gD gp gc g1 g2 g3 g4 gS
        refine CM.mono (fun v σ28 h => ?_) (c_X8_goOn (k := 52) (p := p) (n := dn D) seats52 gp gc (by omega) (by omega) hn ho.1 gD.1)
        refine ⟨by omega, ?_⟩
        cases e : nxt (dn D) p with
        | none =>
          rw [e] at h hrest
          obtain ⟨rfl, rfl⟩ := h
          rw [hrest]
          exact rX6_choose_29 ⟨fun _ => fin s2 _ g1 g2 g3 g4 gS, fun h => by omega⟩
        | some q =>
          rw [e] at h hrest
          obtain ⟨rfl, hq, hS13⟩ := h
          have hok := nxt_ok ho (by omega) e
          exact ih (i + 1) q s2 σ28 (by omega) (by omega) hok.2 hrest hq (by rw [hS13 52 (by decide), gc, hok.1]) (gD.same hS13 (by decide)) (g1.cong (hS13 60 (by decide))) (by rw [hS13 58 (by decide)]; exact g2) g3 g4 (gS.tr (hS13.wk (by decide)))
      have e62 : σ0 62 (720 * y + i) = g p := by rw [hS 62 (by decide), hg i hiE, heq]
      have ei : ((y : Int) * 720 + (i : Int)).toNat = 720 * y + i := by omega
      -- a better one is copied
      have take : ∀ (v : Int) (σ7 : Mem), σ7 = σ0 → v = g p + mvB D y (σ 57) p → v < s.1 → CM mX8_copy [.inr 58, .inr 52] σ7 (fun _ σ94 => CM mX8_goOn [.inr 52, .inl (σ94 1 7)] σ94 (fun v99 σ100 => (inR ((i : Int) + 1)) ∧ (GO none mX6_choose 29 [some (.inr 51), some (.inl (y : Int)), some (.inl v), some (.inl v99), some (.inl ((i : Int) + 1)), none, none] [] σ100 (fun _ σ1 => chQ D y (((pE D).drop (i + 1)).foldl (chS (fun p => g p + mvB D y (σ 57) p)) (chS (fun p => g p + mvB D y (σ 57) p) s p)) σ σ1)))) := by
        intro v σ7 e7 ev hlt
        subst e7
        refine CM.mono (fun v9 σ94 h => ?_) (c_X8_copy (k := 58) (j := 52) seats58 seats52 (by decide) hp hc (by omega))
        obtain ⟨q1, q2, q3⟩ := h
        have e2 : chS (fun p => g p + mvB D y (σ 57) p) s p = (v, p) := by
          show (if g p + mvB D y (σ 57) p < s.1 then (g p + mvB D y (σ 57) p, p) else s) = (v, p)
          rw [if_pos (by omega), ev]
        rw [e2]
        exact next (v, p) σ94 (hD0.same q3 (by decide)) (hp.cong (q3 54 (by decide))) (by rw [q3 52 (by decide)]; exact hc) q2 q1 ⟨(by show p.length ≤ 5; omega), hdl.2⟩ (by show v ≤ 268435456; omega) (hS.tr (q3.wk (by decide)))
      have stay : ∀ (σ7 : Mem), σ7 = σ0 → s.1 ≤ g p + mvB D y (σ 57) p → CM mX8_goOn [.inr 52, .inl (σ7 1 7)] σ7 (fun v89 σ90 => (inR ((i : Int) + 1)) ∧ (GO none mX6_choose 29 [some (.inr 51), some (.inl (y : Int)), some (.inl s.1), some (.inl v89), some (.inl ((i : Int) + 1)), none, none] [] σ90 (fun _ σ1 => chQ D y (((pE D).drop (i + 1)).foldl (chS (fun p => g p + mvB D y (σ 57) p)) (chS (fun p => g p + mvB D y (σ 57) p) s p)) σ σ1))) := by
        intro σ7 e7 hle
        subst e7
        have e2 : chS (fun p => g p + mvB D y (σ 57) p) s p = s := by
          show (if g p + mvB D y (σ 57) p < s.1 then (g p + mvB D y (σ 57) p, p) else s) = s
          rw [if_neg (by omega)]
        rw [e2]
        exact next s σ7 hD0 hp hc h1 h2 h3 h4 hS
      refine rX6_choose_29 ⟨fun h => by omega, fun _ => ⟨fun h => by omega, fun _ => ⟨fun hy0 => ?_, fun hy0 => ?_⟩⟩⟩
      · have hwt : ∀ i, i < dm D → 0 ≤ σ0 18 i ∧ σ0 18 i ≤ 50 := fun i hi => by
          rw [hD0.2.2.2.2.2.2.1]
          exact hw.2.2.2.2.2.2.2.2.1 i (by omega)
        refine CM.mono (fun v σ75 h => ?_) (c_X9_movedWeight (k := 55) (j := 52) seats55 seats52 hD0.2.1 hm hwt)
        obtain ⟨hv, rfl⟩ := h
        have hb := mvW_bd (w := σ75 18) (f := σ75 (55 + 2)) (g := σ75 (52 + 2)) hwt
        have ev : v = mvB D y (σ 57) p := by
          rw [hv]
          unfold mvB
          rw [if_neg (by omega), hD0.2.2.2.2.2.2.1]
          unfold mvW
          refine sumF_cong (fun j hj => ?_)
          show (if σ75 57 j = σ75 54 j then _ else _) = _
          rw [hS 57 (by decide), hp.pg (i := j) (by omega)]
        rw [← hv] at hb
        have hb2 : v ≤ 250 := by omega
        rw [ei, e62]
        refine ⟨by omega, by omega, by omega, by omega, by omega, fun h5 => stay _ rfl (by omega), fun h5 => take _ _ rfl (by rw [ev]) (by omega)⟩
      · have ev : mvB D y (σ 57) p = 0 := by
          unfold mvB
          rw [if_pos (by omega)]
        rw [ei, e62]
        refine ⟨by omega, by omega, by omega, by omega, by omega, fun h5 => stay _ rfl (by omega), fun h5 => take _ _ rfl (by omega) (by omega)⟩
  have hf := first_ok hw
  refine rX6_choose_0 (CM.mono (fun v σ1 h => ?_) (c_X8_begin (k := 52) seats52 hw.2.2.1 hm hn hD.2.1 hD.1))
  obtain ⟨g1, g2, g3⟩ := h
  have := key 720 0 _ (268435456, c0) σ1 rfl hf.1 hf.2 (by rw [List.drop_zero]; exact (pE_walk hw).symm) g2 (by rw [g1, hf.1]) (hD.same g3 (by decide)) (hc0.cong (g3 60 (by decide))) (by rw [g3 58 (by decide)]; exact hl0) hg0 (Int.le_refl _) (g3.wk (by decide))
  rw [List.drop_zero] at this
  exact this
