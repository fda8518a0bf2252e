/-! ===== the reference: what places cost, the best, the changes ===== -/
set_option maxRecDepth 100000 in
theorem rX11_farOf_0 {x1 x2 : Int}  {σ : Mem} {Q : Int → Mem → Prop} (h : ((0 ≤ x1) ∧ (((x1 < 5) ∧ (((inR (6 * (σ 88 (x1).toNat))) ∧ (((0 ≤ x2) ∧ (((x2 < 5) ∧ (((inR ((6 * (σ 88 (x1).toNat)) + (σ 88 (x2).toNat))) ∧ (((0 ≤ ((6 * (σ 88 (x1).toNat)) + (σ 88 (x2).toNat))) ∧ (((((6 * (σ 88 (x1).toNat)) + (σ 88 (x2).toNat)) < 36) ∧ (Q (σ 86 (((6 * (σ 88 (x1).toNat)) + (σ 88 (x2).toNat))).toNat) σ))))))))))))))))) : CM mX11_farOf [.inr 73, .inl x1, .inl x2] σ Q := by
  refine CM_of_GO (by decide +kernel) rfl (Nat.le_of_ble_eq_true rfl) ?_
  show GO none mX11_farOf 0 [some (.inr 73), some (.inl x1), some (.inl x2)] [] σ Q
  refine g_aload_n dX11_farOf_0 rfl rfl ?_
  refine g_getR (r' := 86) flX11_51 (by decide) rfl (by decide) rfl dX11_farOf_1 ?_
  refine g_bipush dX11_farOf_4 (by decide) (by decide) ?_
  refine g_aload_n dX11_farOf_6 rfl rfl ?_
  refine g_getR (r' := 88) flX11_57 (by decide) rfl (by decide) rfl dX11_farOf_7 ?_
  refine g_iload_n dX11_farOf_10 rfl rfl ?_
  obtain ⟨p1, h⟩ := h
  obtain ⟨p2, h⟩ := h
  refine g_iald (by decide) rfl p1 p2 dX11_farOf_11 ?_
  obtain ⟨p3, h⟩ := h
  refine g_imul dX11_farOf_12 p3 ?_
  refine g_aload_n dX11_farOf_13 rfl rfl ?_
  refine g_getR (r' := 88) flX11_57 (by decide) rfl (by decide) rfl dX11_farOf_14 ?_
  refine g_iload_n dX11_farOf_17 rfl rfl ?_
  obtain ⟨p4, h⟩ := h
  obtain ⟨p5, h⟩ := h
  refine g_iald (by decide) rfl p4 p5 dX11_farOf_18 ?_
  obtain ⟨p6, h⟩ := h
  refine g_iadd dX11_farOf_19 p6 ?_
  obtain ⟨p7, h⟩ := h
  obtain ⟨p8, h⟩ := h
  refine g_iald (by decide) rfl p7 p8 dX11_farOf_20 ?_
  exact g_ireturn rfl dX11_farOf_21 h
set_option maxRecDepth 100000 in
theorem rX11_meets_0 {x1 : Int}  {σ : Mem} {Q : Int → Mem → Prop} (h : ((0 ≤ x1) ∧ (((x1 < 6) ∧ (CM mX11_farOf [.inr 73, .inl (σ 80 (x1).toNat), .inl (σ 81 (x1).toNat)] σ (fun v3 σ4 => ((σ4 82 (x1).toNat) = 0 → (v3 = (-1) → Q 1 σ4) ∧ (v3 ≠ (-1) → (v3 < (σ4 83 (x1).toNat) → Q 0 σ4) ∧ ((σ4 83 (x1).toNat) ≤ v3 → Q 1 σ4))) ∧ ((σ4 82 (x1).toNat) ≠ 0 → (v3 = (-1) → Q 0 σ4) ∧ (v3 ≠ (-1) → ((σ4 83 (x1).toNat) < v3 → Q 0 σ4) ∧ (v3 ≤ (σ4 83 (x1).toNat) → Q 1 σ4))))))))) : CM mX11_meets [.inr 73, .inl x1] σ Q := by
  refine CM_of_GO (by decide +kernel) rfl (Nat.le_of_ble_eq_true rfl) ?_
  show GO none mX11_meets 0 [some (.inr 73), some (.inl x1), none] [] σ Q
  refine g_aload_n dX11_meets_0 rfl rfl ?_
  refine g_aload_n dX11_meets_1 rfl rfl ?_
  refine g_getR (r' := 80) flX11_33 (by decide) rfl (by decide) rfl dX11_meets_2 ?_
  refine g_iload_n dX11_meets_5 rfl rfl ?_
  obtain ⟨p1, h⟩ := h
  obtain ⟨p2, h⟩ := h
  refine g_iald (by decide) rfl p1 p2 dX11_meets_6 ?_
  refine g_aload_n dX11_meets_7 rfl rfl ?_
  refine g_getR (r' := 81) flX11_36 (by decide) rfl (by decide) rfl dX11_meets_8 ?_
  refine g_iload_n dX11_meets_11 rfl rfl ?_
  refine g_iald (by decide) rfl p1 p2 dX11_meets_12 ?_
  refine g_invVI (as := [.inl (σ 80 (x1).toNat), .inl (σ 81 (x1).toNat)]) (rest := []) okX11_farOf mlX11_132 (by decide) rfl ⟨_, _, rfl⟩ rfl ⟨Nat.le_of_ble_eq_true rfl, Nat.le_of_ble_eq_true rfl⟩ (Nat.le_of_ble_eq_true rfl) rfl dX11_meets_13 h (Or.inl rfl) (fun v3 σ4 e5 => ?_)
  have h := e5
  refine g_istore_n (ls' := [some (.inr 73), some (.inl x1), some (.inl v3)]) dX11_meets_16 rfl (by decide) rfl ?_
  refine g_aload_n dX11_meets_17 rfl rfl ?_
  refine g_getR (r' := 82) flX11_39 (by decide) rfl (by decide) rfl dX11_meets_18 ?_
  refine g_iload_n dX11_meets_21 rfl rfl ?_
  refine g_zald (by decide) rfl p1 p2 dX11_meets_22 ?_
  refine g_if_eq (tgt := 49) dX11_meets_23 (by decide) (fun c6 => ?_) (fun c6 => ?_)
  · have h := h.1 c6
    refine g_iload_n dX11_meets_49 rfl rfl ?_
    refine g_iconst dX11_meets_50 (by decide) ?_
    refine g_icmp_eq (tgt := 64) dX11_meets_51 (by decide) (fun c7 => ?_) (fun c7 => ?_)
    · have h := h.1 c7
      refine g_iconst dX11_meets_64 (by decide) ?_
      refine g_goto (tgt := 69) dX11_meets_65 (by decide) ?_
      exact g_zreturn rfl dX11_meets_69 (by decide) h
    · have h := h.2 c7
      refine g_iload_n dX11_meets_54 rfl rfl ?_
      refine g_aload_n dX11_meets_55 rfl rfl ?_
      refine g_getR (r' := 83) flX11_42 (by decide) rfl (by decide) rfl dX11_meets_56 ?_
      refine g_iload_n dX11_meets_59 rfl rfl ?_
      refine g_iald (by decide) rfl p1 p2 dX11_meets_60 ?_
      refine g_icmp_lt (tgt := 68) dX11_meets_61 (by decide) (fun c8 => ?_) (fun c8 => ?_)
      · have h := h.1 c8
        refine g_iconst dX11_meets_68 (by decide) ?_
        exact g_zreturn rfl dX11_meets_69 (by decide) h
      · have h := h.2 c8
        refine g_iconst dX11_meets_64 (by decide) ?_
        refine g_goto (tgt := 69) dX11_meets_65 (by decide) ?_
        exact g_zreturn rfl dX11_meets_69 (by decide) h
  · have h := h.2 c6
    refine g_iload_n dX11_meets_26 rfl rfl ?_
    refine g_iconst dX11_meets_27 (by decide) ?_
    refine g_icmp_eq (tgt := 45) dX11_meets_28 (by decide) (fun c9 => ?_) (fun c9 => ?_)
    · have h := h.1 c9
      refine g_iconst dX11_meets_45 (by decide) ?_
      refine g_goto (tgt := 69) dX11_meets_46 (by decide) ?_
      exact g_zreturn rfl dX11_meets_69 (by decide) h
    · have h := h.2 c9
      refine g_iload_n dX11_meets_31 rfl rfl ?_
      refine g_aload_n dX11_meets_32 rfl rfl ?_
      refine g_getR (r' := 83) flX11_42 (by decide) rfl (by decide) rfl dX11_meets_33 ?_
      refine g_iload_n dX11_meets_36 rfl rfl ?_
      refine g_iald (by decide) rfl p1 p2 dX11_meets_37 ?_
      refine g_icmp_gt (tgt := 45) dX11_meets_38 (by decide) (fun c10 => ?_) (fun c10 => ?_)
      · have h := h.1 c10
        refine g_iconst dX11_meets_45 (by decide) ?_
        refine g_goto (tgt := 69) dX11_meets_46 (by decide) ?_
        exact g_zreturn rfl dX11_meets_69 (by decide) h
      · have h := h.2 c10
        refine g_iconst dX11_meets_41 (by decide) ?_
        refine g_goto (tgt := 69) dX11_meets_42 (by decide) ?_
        exact g_zreturn rfl dX11_meets_69 (by decide) h
set_option maxRecDepth 100000 in
theorem rX11_costOf_0 {x1 : Int}  {σ : Mem} {Q : Int → Mem → Prop} (h : GO none mX11_costOf 4 [some (.inr 73), some (.inl x1), some (.inl 0), some (.inl 0), none, none, none] [] σ Q) : CM mX11_costOf [.inr 73, .inl x1] σ Q := by
  refine CM_of_GO (by decide +kernel) rfl (Nat.le_of_ble_eq_true rfl) ?_
  show GO none mX11_costOf 0 [some (.inr 73), some (.inl x1), none, none, none, none, none] [] σ Q
  refine g_iconst dX11_costOf_0 (by decide) ?_
  refine g_istore_n (ls' := [some (.inr 73), some (.inl x1), some (.inl 0), none, none, none, none]) dX11_costOf_1 rfl (by decide) rfl ?_
  refine g_iconst dX11_costOf_2 (by decide) ?_
  refine g_istore_n (ls' := [some (.inr 73), some (.inl x1), some (.inl 0), some (.inl 0), none, none, none]) dX11_costOf_3 rfl (by decide) rfl ?_
  exact h
set_option maxRecDepth 100000 in
theorem rX11_costOf_4 {x1 x2 x3 : Int}  {σ : Mem} {Q : Int → Mem → Prop} (h : ((σ 73 9) ≤ x3 → GO none mX11_costOf 31 [some (.inr 73), some (.inl x1), some (.inl x2), some (.inl 0), none, none, none] [] σ Q) ∧ (x3 < (σ 73 9) → CM mX11_meets [.inr 73, .inl x3] σ (fun v2 σ3 => (v2 ≠ 0 → ((inR (x3 + 1)) ∧ (GO none mX11_costOf 4 [some (.inr 73), some (.inl x1), some (.inl x2), some (.inl (x3 + 1)), none, none, none] [] σ3 Q))) ∧ (v2 = 0 → Q 100000000 σ3)))) : GO none mX11_costOf 4 [some (.inr 73), some (.inl x1), some (.inl x2), some (.inl x3), none, none, none] [] σ Q := by
  refine g_iload_n dX11_costOf_4 rfl rfl ?_
  refine g_aload_n dX11_costOf_5 rfl rfl ?_
  refine g_getI flX11_113 (by decide) rfl (by decide) rfl dX11_costOf_6 ?_
  refine g_icmp_ge (tgt := 29) dX11_costOf_9 (by decide) (fun c1 => ?_) (fun c1 => ?_)
  · have h := h.1 c1
    refine g_iconst dX11_costOf_29 (by decide) ?_
    refine g_istore_n (ls' := [some (.inr 73), some (.inl x1), some (.inl x2), some (.inl 0), none, none, none]) dX11_costOf_30 rfl (by decide) rfl ?_
    exact h
  · have h := h.2 c1
    refine g_aload_n dX11_costOf_12 rfl rfl ?_
    refine g_iload_n dX11_costOf_13 rfl rfl ?_
    refine g_invVI (as := [.inl x3]) (rest := []) okX11_meets mlX11_135 (by decide) rfl ⟨_, _, rfl⟩ rfl ⟨Nat.le_of_ble_eq_true rfl, Nat.le_of_ble_eq_true rfl⟩ (Nat.le_of_ble_eq_true rfl) rfl dX11_costOf_14 h (Or.inr rfl) (fun v2 σ3 e4 => ?_)
    have h := e4
    refine g_if_ne (tgt := 23) dX11_costOf_17 (by decide) (fun c5 => ?_) (fun c5 => ?_)
    · have h := h.1 c5
      obtain ⟨p6, h⟩ := h
      refine g_iinc (ls' := [some (.inr 73), some (.inl x1), some (.inl x2), some (.inl (x3 + 1)), none, none, none]) dX11_costOf_23 (by decide) rfl p6 rfl ?_
      refine g_goto (tgt := 4) dX11_costOf_26 (by decide) ?_
      exact h
    · have h := h.2 c5
      refine g_ldc (n := 100000000) dX11_costOf_20 kcX11_138 (by decide) (by decide) ?_
      exact g_ireturn rfl dX11_costOf_22 h
set_option maxRecDepth 100000 in
theorem rX11_costOf_31 {x1 x2 x3 : Int}  {σ : Mem} {Q : Int → Mem → Prop} (h : ((σ 73 5) ≤ x3 → Q x2 σ) ∧ (x3 < (σ 73 5) → ((0 ≤ x3) ∧ (((x3 < 5) ∧ (((0 ≤ (σ 88 (x3).toNat)) ∧ ((((σ 88 (x3).toNat) < 6) ∧ ((41 ≤ (σ 73 4) → GO none mX11_costOf 82 [some (.inr 73), some (.inl x1), some (.inl x2), some (.inl x3), none, some (.inl 0), none] [] σ Q) ∧ ((σ 73 4) < 41 → ((σ 87 ((σ 88 (x3).toNat)).toNat) = (-1) → Q 100000000 σ) ∧ ((σ 87 ((σ 88 (x3).toNat)).toNat) ≠ (-1) → ((σ 87 ((σ 88 (x3).toNat)).toNat) ≤ (σ 73 4) → GO none mX11_costOf 82 [some (.inr 73), some (.inl x1), some (.inl x2), some (.inl x3), none, some (.inl 0), none] [] σ Q) ∧ ((σ 73 4) < (σ 87 ((σ 88 (x3).toNat)).toNat) → Q 100000000 σ))))))))))))) : GO none mX11_costOf 31 [some (.inr 73), some (.inl x1), some (.inl x2), some (.inl x3), none, none, none] [] σ Q := by
  refine g_iload_n dX11_costOf_31 rfl rfl ?_
  refine g_aload_n dX11_costOf_32 rfl rfl ?_
  refine g_getI flX11_85 (by decide) rfl (by decide) rfl dX11_costOf_33 ?_
  refine g_icmp_ge (tgt := 153) dX11_costOf_36 (by decide) (fun c1 => ?_) (fun c1 => ?_)
  · have h := h.1 c1
    refine g_iload_n dX11_costOf_153 rfl rfl ?_
    exact g_ireturn rfl dX11_costOf_154 h
  · have h := h.2 c1
    refine g_aload_n dX11_costOf_39 rfl rfl ?_
    refine g_getR (r' := 87) flX11_54 (by decide) rfl (by decide) rfl dX11_costOf_40 ?_
    refine g_aload_n dX11_costOf_43 rfl rfl ?_
    refine g_getR (r' := 88) flX11_57 (by decide) rfl (by decide) rfl dX11_costOf_44 ?_
    refine g_iload_n dX11_costOf_47 rfl rfl ?_
    obtain ⟨p2, h⟩ := h
    obtain ⟨p3, h⟩ := h
    refine g_iald (by decide) rfl p2 p3 dX11_costOf_48 ?_
    obtain ⟨p4, h⟩ := h
    obtain ⟨p5, h⟩ := h
    refine g_iald (by decide) rfl p4 p5 dX11_costOf_49 ?_
    refine g_istore (ls' := [some (.inr 73), some (.inl x1), some (.inl x2), some (.inl x3), some (.inl (σ 87 ((σ 88 (x3).toNat)).toNat)), none, none]) dX11_costOf_50 (by decide) rfl ?_
    refine g_aload_n dX11_costOf_52 rfl rfl ?_
    refine g_getI flX11_20 (by decide) rfl (by decide) rfl dX11_costOf_53 ?_
    refine g_bipush dX11_costOf_56 (by decide) (by decide) ?_
    refine g_icmp_ge (tgt := 79) dX11_costOf_58 (by decide) (fun c6 => ?_) (fun c6 => ?_)
    · have h := h.1 c6
      refine g_iconst dX11_costOf_79 (by decide) ?_
      refine g_istore (ls' := [some (.inr 73), some (.inl x1), some (.inl x2), some (.inl x3), some (.inl (σ 87 ((σ 88 (x3).toNat)).toNat)), some (.inl 0), none]) dX11_costOf_80 (by decide) rfl ?_
      refine g_kill (i := 4) (ls' := [some (.inr 73), some (.inl x1), some (.inl x2), some (.inl x3), none, some (.inl 0), none]) rfl ?_
      exact h
    · have h := h.2 c6
      refine g_iload dX11_costOf_61 rfl ?_
      refine g_iconst dX11_costOf_63 (by decide) ?_
      refine g_icmp_eq (tgt := 76) dX11_costOf_64 (by decide) (fun c7 => ?_) (fun c7 => ?_)
      · have h := h.1 c7
        refine g_ldc (n := 100000000) dX11_costOf_76 kcX11_138 (by decide) (by decide) ?_
        exact g_ireturn rfl dX11_costOf_78 h
      · have h := h.2 c7
        refine g_iload dX11_costOf_67 rfl ?_
        refine g_aload_n dX11_costOf_69 rfl rfl ?_
        refine g_getI flX11_20 (by decide) rfl (by decide) rfl dX11_costOf_70 ?_
        refine g_icmp_le (tgt := 79) dX11_costOf_73 (by decide) (fun c8 => ?_) (fun c8 => ?_)
        · have h := h.1 c8
          refine g_iconst dX11_costOf_79 (by decide) ?_
          refine g_istore (ls' := [some (.inr 73), some (.inl x1), some (.inl x2), some (.inl x3), some (.inl (σ 87 ((σ 88 (x3).toNat)).toNat)), some (.inl 0), none]) dX11_costOf_80 (by decide) rfl ?_
          refine g_kill (i := 4) (ls' := [some (.inr 73), some (.inl x1), some (.inl x2), some (.inl x3), none, some (.inl 0), none]) rfl ?_
          exact h
        · have h := h.2 c8
          refine g_ldc (n := 100000000) dX11_costOf_76 kcX11_138 (by decide) (by decide) ?_
          exact g_ireturn rfl dX11_costOf_78 h
set_option maxRecDepth 100000 in
theorem rX11_costOf_82 {x1 x2 x3 x5 : Int}  {σ : Mem} {Q : Int → Mem → Prop} (h : ((σ 73 5) ≤ x5 → ((inR (x3 + 1)) ∧ (GO none mX11_costOf 31 [some (.inr 73), some (.inl x1), some (.inl x2), some (.inl (x3 + 1)), none, none, none] [] σ Q))) ∧ (x5 < (σ 73 5) → ((inR (25 * x1)) ∧ (((inR (5 * x3)) ∧ (((inR ((25 * x1) + (5 * x3))) ∧ (((inR (((25 * x1) + (5 * x3)) + x5)) ∧ (((0 ≤ (((25 * x1) + (5 * x3)) + x5)) ∧ ((((((25 * x1) + (5 * x3)) + x5) < 100) ∧ (((σ 78 ((((25 * x1) + (5 * x3)) + x5)).toNat) ≤ 0 → CM mX11_farOf [.inr 73, .inl x3, .inl x5] σ (fun v10 σ11 => ((inR ((σ 78 ((((25 * x1) + (5 * x3)) + x5)).toNat) * v10)) ∧ (((inR (x2 + ((σ 78 ((((25 * x1) + (5 * x3)) + x5)).toNat) * v10))) ∧ (((inR (x5 + 1)) ∧ (GO none mX11_costOf 82 [some (.inr 73), some (.inl x1), some (.inl (x2 + ((σ 78 ((((25 * x1) + (5 * x3)) + x5)).toNat) * v10))), some (.inl x3), none, some (.inl (x5 + 1)), none] [] σ11 Q)))))))) ∧ (0 < (σ 78 ((((25 * x1) + (5 * x3)) + x5)).toNat) → CM mX11_farOf [.inr 73, .inl x3, .inl x5] σ (fun v16 σ17 => (v16 ≠ (-1) → CM mX11_farOf [.inr 73, .inl x3, .inl x5] σ17 (fun v20 σ21 => ((inR ((σ 78 ((((25 * x1) + (5 * x3)) + x5)).toNat) * v20)) ∧ (((inR (x2 + ((σ 78 ((((25 * x1) + (5 * x3)) + x5)).toNat) * v20))) ∧ (((inR (x5 + 1)) ∧ (GO none mX11_costOf 82 [some (.inr 73), some (.inl x1), some (.inl (x2 + ((σ 78 ((((25 * x1) + (5 * x3)) + x5)).toNat) * v20))), some (.inl x3), none, some (.inl (x5 + 1)), none] [] σ21 Q)))))))) ∧ (v16 = (-1) → Q 100000000 σ17))))))))))))))))) : GO none mX11_costOf 82 [some (.inr 73), some (.inl x1), some (.inl x2), some (.inl x3), none, some (.inl x5), none] [] σ Q := by
  refine g_iload dX11_costOf_82 rfl ?_
  refine g_aload_n dX11_costOf_84 rfl rfl ?_
  refine g_getI flX11_85 (by decide) rfl (by decide) rfl dX11_costOf_85 ?_
  refine g_icmp_ge (tgt := 147) dX11_costOf_88 (by decide) (fun c1 => ?_) (fun c1 => ?_)
  · have h := h.1 c1
    obtain ⟨p2, h⟩ := h
    refine g_iinc (ls' := [some (.inr 73), some (.inl x1), some (.inl x2), some (.inl (x3 + 1)), none, some (.inl x5), none]) dX11_costOf_147 (by decide) rfl p2 rfl ?_
    refine g_goto (tgt := 31) dX11_costOf_150 (by decide) ?_
    refine g_kill (i := 5) (ls' := [some (.inr 73), some (.inl x1), some (.inl x2), some (.inl (x3 + 1)), none, none, none]) rfl ?_
    exact h
  · have h := h.2 c1
    refine g_aload_n dX11_costOf_91 rfl rfl ?_
    refine g_getR (r' := 78) flX11_27 (by decide) rfl (by decide) rfl dX11_costOf_92 ?_
    refine g_bipush dX11_costOf_95 (by decide) (by decide) ?_
    refine g_iload_n dX11_costOf_97 rfl rfl ?_
    obtain ⟨p3, h⟩ := h
    refine g_imul dX11_costOf_98 p3 ?_
    refine g_iconst dX11_costOf_99 (by decide) ?_
    refine g_iload_n dX11_costOf_100 rfl rfl ?_
    obtain ⟨p4, h⟩ := h
    refine g_imul dX11_costOf_101 p4 ?_
    obtain ⟨p5, h⟩ := h
    refine g_iadd dX11_costOf_102 p5 ?_
    refine g_iload dX11_costOf_103 rfl ?_
    obtain ⟨p6, h⟩ := h
    refine g_iadd dX11_costOf_105 p6 ?_
    obtain ⟨p7, h⟩ := h
    obtain ⟨p8, h⟩ := h
    refine g_iald (by decide) rfl p7 p8 dX11_costOf_106 ?_
    refine g_istore (ls' := [some (.inr 73), some (.inl x1), some (.inl x2), some (.inl x3), none, some (.inl x5), some (.inl (σ 78 ((((25 * x1) + (5 * x3)) + x5)).toNat))]) dX11_costOf_107 (by decide) rfl ?_
    refine g_iload dX11_costOf_109 rfl ?_
    refine g_if_le (tgt := 128) dX11_costOf_111 (by decide) (fun c9 => ?_) (fun c9 => ?_)
    · have h := h.1 c9
      refine g_iload_n dX11_costOf_128 rfl rfl ?_
      refine g_iload dX11_costOf_129 rfl ?_
      refine g_aload_n dX11_costOf_131 rfl rfl ?_
      refine g_iload_n dX11_costOf_132 rfl rfl ?_
      refine g_iload dX11_costOf_133 rfl ?_
      refine g_invVI (as := [.inl x3, .inl x5]) (rest := [.inl (σ 78 ((((25 * x1) + (5 * x3)) + x5)).toNat), .inl x2]) okX11_farOf mlX11_132 (by decide) rfl ⟨_, _, rfl⟩ rfl ⟨Nat.le_of_ble_eq_true rfl, Nat.le_of_ble_eq_true rfl⟩ (Nat.le_of_ble_eq_true rfl) rfl dX11_costOf_135 h (Or.inl rfl) (fun v10 σ11 e12 => ?_)
      have h := e12
      obtain ⟨p13, h⟩ := h
      refine g_imul dX11_costOf_138 p13 ?_
      obtain ⟨p14, h⟩ := h
      refine g_iadd dX11_costOf_139 p14 ?_
      refine g_istore_n (ls' := [some (.inr 73), some (.inl x1), some (.inl (x2 + ((σ 78 ((((25 * x1) + (5 * x3)) + x5)).toNat) * v10))), some (.inl x3), none, some (.inl x5), some (.inl (σ 78 ((((25 * x1) + (5 * x3)) + x5)).toNat))]) dX11_costOf_140 rfl (by decide) rfl ?_
      obtain ⟨p15, h⟩ := h
      refine g_iinc (ls' := [some (.inr 73), some (.inl x1), some (.inl (x2 + ((σ 78 ((((25 * x1) + (5 * x3)) + x5)).toNat) * v10))), some (.inl x3), none, some (.inl (x5 + 1)), some (.inl (σ 78 ((((25 * x1) + (5 * x3)) + x5)).toNat))]) dX11_costOf_141 (by decide) rfl p15 rfl ?_
      refine g_goto (tgt := 82) dX11_costOf_144 (by decide) ?_
      refine g_kill (i := 6) (ls' := [some (.inr 73), some (.inl x1), some (.inl (x2 + ((σ 78 ((((25 * x1) + (5 * x3)) + x5)).toNat) * v10))), some (.inl x3), none, some (.inl (x5 + 1)), none]) rfl ?_
      exact h
    · have h := h.2 c9
      refine g_aload_n dX11_costOf_114 rfl rfl ?_
      refine g_iload_n dX11_costOf_115 rfl rfl ?_
      refine g_iload dX11_costOf_116 rfl ?_
      refine g_invVI (as := [.inl x3, .inl x5]) (rest := []) okX11_farOf mlX11_132 (by decide) rfl ⟨_, _, rfl⟩ rfl ⟨Nat.le_of_ble_eq_true rfl, Nat.le_of_ble_eq_true rfl⟩ (Nat.le_of_ble_eq_true rfl) rfl dX11_costOf_118 h (Or.inl rfl) (fun v16 σ17 e18 => ?_)
      have h := e18
      refine g_iconst dX11_costOf_121 (by decide) ?_
      refine g_icmp_ne (tgt := 128) dX11_costOf_122 (by decide) (fun c19 => ?_) (fun c19 => ?_)
      · have h := h.1 c19
        refine g_iload_n dX11_costOf_128 rfl rfl ?_
        refine g_iload dX11_costOf_129 rfl ?_
        refine g_aload_n dX11_costOf_131 rfl rfl ?_
        refine g_iload_n dX11_costOf_132 rfl rfl ?_
        refine g_iload dX11_costOf_133 rfl ?_
        refine g_invVI (as := [.inl x3, .inl x5]) (rest := [.inl (σ 78 ((((25 * x1) + (5 * x3)) + x5)).toNat), .inl x2]) okX11_farOf mlX11_132 (by decide) rfl ⟨_, _, rfl⟩ rfl ⟨Nat.le_of_ble_eq_true rfl, Nat.le_of_ble_eq_true rfl⟩ (Nat.le_of_ble_eq_true rfl) rfl dX11_costOf_135 h (Or.inl rfl) (fun v20 σ21 e22 => ?_)
        have h := e22
        obtain ⟨p23, h⟩ := h
        refine g_imul dX11_costOf_138 p23 ?_
        obtain ⟨p24, h⟩ := h
        refine g_iadd dX11_costOf_139 p24 ?_
        refine g_istore_n (ls' := [some (.inr 73), some (.inl x1), some (.inl (x2 + ((σ 78 ((((25 * x1) + (5 * x3)) + x5)).toNat) * v20))), some (.inl x3), none, some (.inl x5), some (.inl (σ 78 ((((25 * x1) + (5 * x3)) + x5)).toNat))]) dX11_costOf_140 rfl (by decide) rfl ?_
        obtain ⟨p25, h⟩ := h
        refine g_iinc (ls' := [some (.inr 73), some (.inl x1), some (.inl (x2 + ((σ 78 ((((25 * x1) + (5 * x3)) + x5)).toNat) * v20))), some (.inl x3), none, some (.inl (x5 + 1)), some (.inl (σ 78 ((((25 * x1) + (5 * x3)) + x5)).toNat))]) dX11_costOf_141 (by decide) rfl p25 rfl ?_
        refine g_goto (tgt := 82) dX11_costOf_144 (by decide) ?_
        refine g_kill (i := 6) (ls' := [some (.inr 73), some (.inl x1), some (.inl (x2 + ((σ 78 ((((25 * x1) + (5 * x3)) + x5)).toNat) * v20))), some (.inl x3), none, some (.inl (x5 + 1)), none]) rfl ?_
        exact h
      · have h := h.2 c19
        refine g_ldc (n := 100000000) dX11_costOf_125 kcX11_138 (by decide) (by decide) ?_
        exact g_ireturn rfl dX11_costOf_127 h
set_option maxRecDepth 100000 in
theorem rX11_cost_0 {x1 : Int}  {σ : Mem} {Q : Int → Mem → Prop} (h : (0 ≤ x1 ∧ x1 < 4 → CM mX11_layFloor [.inr 73] σ (fun _ σ6 => CM mX11_takeNow [.inr 73] σ6 (fun _ σ9 => CM mX11_costOf [.inr 73, .inl x1] σ9 (fun v11 σ12 => (v11 ≠ 100000000 → Q v11 σ12) ∧ (v11 = 100000000 → Q (-1) σ12))))) ∧ (¬ (0 ≤ x1 ∧ x1 < 4) → Q (-2) σ)) : CM mX11_cost [.inr 73, .inl x1] σ Q := by
  refine CM_of_GO (by decide +kernel) rfl (Nat.le_of_ble_eq_true rfl) ?_
  show GO none mX11_cost 0 [some (.inr 73), some (.inl x1), none] [] σ Q
  refine g_iload_n dX11_cost_0 rfl rfl ?_
  refine g_invSI (as := [.inl x1]) (rest := []) okX11_isYear rfl mlX11_107 rfl ⟨Nat.le_of_ble_eq_true rfl, Nat.le_of_ble_eq_true rfl⟩ (Nat.le_of_ble_eq_true rfl) rfl dX11_cost_1 (c_X11_isYear) (Or.inr rfl) (fun v1 σ2 e3 => ?_)
  obtain ⟨e3a, e3b⟩ := e3; subst v1; subst σ2
  refine g_if_ne (tgt := 10) dX11_cost_4 (by decide) (fun c4 => ?_) (fun c4 => ?_)
  · have h := h.1 (ite_yes c4)
    refine g_aload_n dX11_cost_10 rfl rfl ?_
    refine g_invVV (as := []) (rest := []) okX11_layFloor mlX11_104 (by decide) rfl ⟨_, _, rfl⟩ rfl ⟨Nat.le_of_ble_eq_true rfl, Nat.le_of_ble_eq_true rfl⟩ (Nat.le_of_ble_eq_true rfl) rfl dX11_cost_11 h rfl (fun σ6 e7 => ?_)
    have h := e7
    refine g_aload_n dX11_cost_14 rfl rfl ?_
    refine g_invVV (as := []) (rest := []) okX11_takeNow mlX11_126 (by decide) rfl ⟨_, _, rfl⟩ rfl ⟨Nat.le_of_ble_eq_true rfl, Nat.le_of_ble_eq_true rfl⟩ (Nat.le_of_ble_eq_true rfl) rfl dX11_cost_15 h rfl (fun σ9 e10 => ?_)
    have h := e10
    refine g_aload_n dX11_cost_18 rfl rfl ?_
    refine g_iload_n dX11_cost_19 rfl rfl ?_
    refine g_invVI (as := [.inl x1]) (rest := []) okX11_costOf mlX11_139 (by decide) rfl ⟨_, _, rfl⟩ rfl ⟨Nat.le_of_ble_eq_true rfl, Nat.le_of_ble_eq_true rfl⟩ (Nat.le_of_ble_eq_true rfl) rfl dX11_cost_20 h (Or.inl rfl) (fun v11 σ12 e13 => ?_)
    have h := e13
    refine g_istore_n (ls' := [some (.inr 73), some (.inl x1), some (.inl v11)]) dX11_cost_23 rfl (by decide) rfl ?_
    refine g_iload_n dX11_cost_24 rfl rfl ?_
    refine g_ldc (n := 100000000) dX11_cost_25 kcX11_138 (by decide) (by decide) ?_
    refine g_icmp_ne (tgt := 34) dX11_cost_27 (by decide) (fun c14 => ?_) (fun c14 => ?_)
    · have h := h.1 c14
      refine g_iload_n dX11_cost_34 rfl rfl ?_
      exact g_ireturn rfl dX11_cost_35 h
    · have h := h.2 c14
      refine g_iconst dX11_cost_30 (by decide) ?_
      refine g_goto (tgt := 35) dX11_cost_31 (by decide) ?_
      exact g_ireturn rfl dX11_cost_35 h
  · have h := h.2 (ite_no c4)
    refine g_bipush dX11_cost_7 (by decide) (by decide) ?_
    exact g_ireturn rfl dX11_cost_9 h
noncomputable def cM (D : Dt) (y : Nat) (p : List Nat) : Int := if cost D y p = -1 then 100000000 else cost D y p
theorem c_X11_farOf {Z : Zt} {σ : Mem} {p : List Nat} {a b : Nat} {x1 x2 : Int} (hZ : GZ Z) (hL : ML Z σ) (hl : p.length = dm (zD Z)) (hs : ∀ s ∈ p, s < dn (zD Z)) (hp : hld σ 88 p) (ha : a < dm (zD Z)) (hb : b < dm (zD Z)) (e1 : x1 = a) (e2 : x2 = b) : CM mX11_farOf [.inr 73, .inl x1, .inl x2] σ (fun v σ1 => v = wy (zD Z) p a b ∧ σ1 = σ) := by
  subst e1 e2
  have h5 := hZ.m5
  have hn6 := hZ.n6
  have h1 := hs _ (pg_mem (p := p) (i := a) (by omega))
  have h2 := hs _ (pg_mem (p := p) (i := b) (by omega))
  refine rX11_farOf_0 ?_
  rw [Int.toNat_natCast, Int.toNat_natCast, hp.pg (by omega), hp.pg (by omega), show (6 * (pg p a : Int) + (pg p b : Int)).toNat = 6 * pg p a + pg p b by omega]
  exact ⟨by omega, by omega, by omega, by omega, by omega, by omega, by omega, by omega, (hL _ h1).1 _ h2, rfl⟩
theorem c_X11_meets {Z : Zt} {σ : Mem} {p : List Nat} {i : Nat} {x1 : Int} (hZ : GZ Z) (hM : MI Z σ) (hL : ML Z σ) (hl : p.length = dm (zD Z)) (hs : ∀ s ∈ p, s < dn (zD Z)) (hp : hld σ 88 p) (hi : i < dwn (zD Z)) (e1 : x1 = i) : CM mX11_meets [.inr 73, .inl x1] σ (fun v σ1 => ((v = 1 ∧ metW (zD Z) i (wy (zD Z) p (dwa (zD Z) i).toNat (dwb (zD Z) i).toNat)) ∨ (v = 0 ∧ ¬ metW (zD Z) i (wy (zD Z) p (dwa (zD Z) i).toNat (dwb (zD Z) i).toNat))) ∧ σ1 = σ) := by
  subst e1
  have hw6 := hZ.wf.2.2.2.2.2.2.2.2.2.2.1
  obtain ⟨q1, q2, q3, q4⟩ := hZ.wf.2.2.2.2.2.2.2.2.2.2.2 i hi
  refine rX11_meets_0 ⟨by omega, by omega, ?_⟩
  rw [Int.toNat_natCast, hM.wa, hM.wb]
  refine CM.mono (fun v σ1 hq => ?_) (c_X11_farOf (a := (dwa (zD Z) i).toNat) (b := (dwb (zD Z) i).toNat) hZ hL hl hs hp (by omega) (by omega) (by omega) (by omega))
  obtain ⟨rfl, rfl⟩ := hq
  generalize wy (zD Z) p (dwa (zD Z) i).toNat (dwb (zD Z) i).toNat = f
  rw [hM.we, hM.wd]
  unfold metW
  refine ⟨fun h0 => ⟨fun h => ⟨Or.inl ⟨rfl, by omega⟩, rfl⟩, fun h => ⟨fun h1 => ⟨Or.inr ⟨rfl, by omega⟩, rfl⟩, fun h1 => ⟨Or.inl ⟨rfl, by omega⟩, rfl⟩⟩⟩, fun h0 => ⟨fun h => ⟨Or.inr ⟨rfl, by omega⟩, rfl⟩, fun h => ⟨fun h1 => ⟨Or.inr ⟨rfl, by omega⟩, rfl⟩, fun h1 => ⟨Or.inl ⟨rfl, by omega⟩, rfl⟩⟩⟩⟩
theorem c_X11_costOf {Z : Zt} {σ : Mem} {p : List Nat} {y : Nat} {x1 : Int} (hZ : GZ Z) (hM : MI Z σ) (hL : ML Z σ) (hl : p.length = dm (zD Z)) (hs : ∀ s ∈ p, s < dn (zD Z)) (hp : hld σ 88 p) (hy : y < 4) (e1 : x1 = y) : CM mX11_costOf [.inr 73, .inl x1] σ (fun v σ1 => v = cM (zD Z) y p ∧ σ1 = σ) := by
  subst e1
  have h5 := hZ.m5
  have hn6 := hZ.n6
  have hB := hZ.wf.2.2.2.2.2.2.1
  have hmm := hM.m
  have hfar : ¬ right (zD Z) y p → (100000000 : Int) = cM (zD Z) y p ∧ σ = σ := fun h => ⟨by unfold cM; rw [cost_no h, if_pos rfl], rfl⟩
  have trm : ∀ a b, a < dm (zD Z) → b < dm (zD Z) → (0 < ld (zD Z) y a b → wy (zD Z) p a b ≠ -1) → 0 ≤ ld (zD Z) y a b * wy (zD Z) p a b ∧ ld (zD Z) y a b * wy (zD Z) p a b ≤ 3564 := fun a b ha hb h => by
    have h1 := ld_bd hZ.wf hy ha hb
    have h2 := wy_bd hZ.wf hl hs ha hb
    by_cases z : ld (zD Z) y a b = 0
    · rw [z, Int.zero_mul]; omega
    · have h3 := h (by omega)
      exact ⟨Int.mul_nonneg h1.1 (by omega), Int.mul_le_mul h1.2 h2.2 (by omega) (by omega)⟩
  have rowS : Nat → Int := fun a => sumF (fun b => ld (zD Z) y a b * wy (zD Z) p a b) (dm (zD Z))
  have rowB : ∀ a k, a < dm (zD Z) → k ≤ dm (zD Z) → (∀ b, b < k → 0 < ld (zD Z) y a b → wy (zD Z) p a b ≠ -1) → 0 ≤ sumF (fun b => ld (zD Z) y a b * wy (zD Z) p a b) k ∧ sumF (fun b => ld (zD Z) y a b * wy (zD Z) p a b) k ≤ k * 3564 := fun a k ha hk h => sumF_bd (fun b hb => trm a b ha (by omega) (h b hb))
  have colB : ∀ k, k ≤ dm (zD Z) → (∀ a, a < k → ∀ b, b < dm (zD Z) → 0 < ld (zD Z) y a b → wy (zD Z) p a b ≠ -1) → 0 ≤ sumF (fun a => sumF (fun b => ld (zD Z) y a b * wy (zD Z) p a b) (dm (zD Z))) k ∧ sumF (fun a => sumF (fun b => ld (zD Z) y a b * wy (zD Z) p a b) (dm (zD Z))) k ≤ k * 17820 := fun k hk h => sumF_bd (fun a ha => by
    have := rowB a (dm (zD Z)) (by omega) (Nat.le_refl _) (h a ha)
    omega)
  have inner : ∀ (d b a : Nat), b + d = dm (zD Z) → a < dm (zD Z) → (∀ a', a' < a → ∀ b, b < dm (zD Z) → 0 < ld (zD Z) y a' b → wy (zD Z) p a' b ≠ -1) → (∀ b', b' < b → 0 < ld (zD Z) y a b' → wy (zD Z) p a b' ≠ -1) → ((∀ b', b' < dm (zD Z) → 0 < ld (zD Z) y a b' → wy (zD Z) p a b' ≠ -1) → GO none mX11_costOf 31 [some (.inr 73), some (.inl (y : Int)), some (.inl (sumF (fun a => sumF (fun b => ld (zD Z) y a b * wy (zD Z) p a b) (dm (zD Z))) (a + 1))), some (.inl ((a : Int) + 1)), none, none, none] [] σ (fun v σ1 => v = cM (zD Z) y p ∧ σ1 = σ)) → GO none mX11_costOf 82 [some (.inr 73), some (.inl (y : Int)), some (.inl (sumF (fun a => sumF (fun b => ld (zD Z) y a b * wy (zD Z) p a b) (dm (zD Z))) a + sumF (fun b => ld (zD Z) y a b * wy (zD Z) p a b) b)), some (.inl (a : Int)), none, some (.inl (b : Int)), none] [] σ (fun v σ1 => v = cM (zD Z) y p ∧ σ1 = σ) := by
    intro d
    induction d with
    | zero =>
      intro b a hd ha hr1 hr2 k
      refine rX11_costOf_82 ⟨fun _ => ⟨by omega, ?_⟩, fun h => by omega⟩
      have e : b = dm (zD Z) := by omega
      subst e
      exact k hr2
    | succ d ih =>
      intro b a hd ha hr1 hr2 k
      have hb : b < dm (zD Z) := by omega
      have hld := ld_bd hZ.wf hy ha hb
      have hwy := wy_bd hZ.wf hl hs ha hb
      have c1 := colB a (by omega) hr1
      have c2 := rowB a b ha (by omega) hr2
      have el : σ 78 (25 * y + 5 * a + b) = ld (zD Z) y a b := by rw [hM.l]; rfl
      have hstep : ∀ (h : 0 < ld (zD Z) y a b → wy (zD Z) p a b ≠ -1), CM mX11_farOf [.inr 73, .inl (a : Int), .inl (b : Int)] σ (fun v10 σ11 => inR (ld (zD Z) y a b * v10) ∧ inR (sumF (fun a => sumF (fun b => ld (zD Z) y a b * wy (zD Z) p a b) (dm (zD Z))) a + sumF (fun b => ld (zD Z) y a b * wy (zD Z) p a b) b + ld (zD Z) y a b * v10) ∧ inR ((b : Int) + 1) ∧ GO none mX11_costOf 82 [some (.inr 73), some (.inl (y : Int)), some (.inl (sumF (fun a => sumF (fun b => ld (zD Z) y a b * wy (zD Z) p a b) (dm (zD Z))) a + sumF (fun b => ld (zD Z) y a b * wy (zD Z) p a b) b + ld (zD Z) y a b * v10)), some (.inl (a : Int)), none, some (.inl ((b : Int) + 1)), none] [] σ11 (fun v σ1 => v = cM (zD Z) y p ∧ σ1 = σ)) := fun h => by
        refine CM.mono (fun v σ1 hq => ?_) (c_X11_farOf (a := a) (b := b) hZ hL hl hs hp ha hb rfl rfl)
        obtain ⟨rfl, rfl⟩ := hq
        have t := trm a b ha hb h
        refine ⟨by omega, by omega, by omega, ?_⟩
        have := ih (b + 1) a (by omega) ha hr1 (fun b' hb' => by
          by_cases z : b' = b
          · rw [z]; exact h
          · exact hr2 b' (by omega)) k
        rw [sumF_succ, ← Int.add_assoc] at this
        exact this
      refine rX11_costOf_82 ⟨fun h => by omega, fun _ => ?_⟩
      rw [show (25 * (y : Int) + 5 * (a : Int) + (b : Int)).toNat = 25 * y + 5 * a + b by omega, el]
      refine ⟨by omega, by omega, by omega, by omega, by omega, by omega, fun h0 => hstep (fun h => by omega), fun h0 => ?_⟩
      refine CM.mono (fun v σ1 hq => ?_) (c_X11_farOf (a := a) (b := b) hZ hL hl hs hp ha hb rfl rfl)
      obtain ⟨rfl, rfl⟩ := hq
      exact ⟨fun hv => hstep (fun _ => hv), fun hv => hfar (fun r => r.2.2 a b ha hb h0 hv)⟩
  have outer : ∀ (d a : Nat), a + d = dm (zD Z) → (∀ i, i < dwn (zD Z) → metW (zD Z) i (wy (zD Z) p (dwa (zD Z) i).toNat (dwb (zD Z) i).toNat)) → (∀ a', a' < a → okE (zD Z) (pg p a')) → (∀ a', a' < a → ∀ b, b < dm (zD Z) → 0 < ld (zD Z) y a' b → wy (zD Z) p a' b ≠ -1) → GO none mX11_costOf 31 [some (.inr 73), some (.inl (y : Int)), some (.inl (sumF (fun a => sumF (fun b => ld (zD Z) y a b * wy (zD Z) p a b) (dm (zD Z))) a)), some (.inl (a : Int)), none, none, none] [] σ (fun v σ1 => v = cM (zD Z) y p ∧ σ1 = σ) := by
    intro d
    induction d with
    | zero =>
      intro a hd hw he hr
      refine rX11_costOf_31 ⟨fun _ => ⟨?_, rfl⟩, fun h => by omega⟩
      have e : a = dm (zD Z) := by omega
      subst e
      have hR : right (zD Z) y p := ⟨fun s hs => by
        obtain ⟨j, hj, rfl⟩ := mem_pg hs
        exact he j (by omega), hw, fun a b ha hb => hr a ha b hb⟩
      have c1 := colB (dm (zD Z)) (Nat.le_refl _) hr
      unfold cM
      rw [cost_yes hR]
      rw [if_neg]
      · rfl
      · unfold csum; omega
    | succ d ih =>
      intro a hd hw he hr
      have ha : a < p.length := by omega
      have hpa := hs _ (pg_mem ha)
      have e87 : σ 87 (pg p a) = dO (zD Z) (pg p a) := (hL _ hpa).2
      have go : okE (zD Z) (pg p a) → GO none mX11_costOf 82 [some (.inr 73), some (.inl (y : Int)), some (.inl (sumF (fun a => sumF (fun b => ld (zD Z) y a b * wy (zD Z) p a b) (dm (zD Z))) a)), some (.inl (a : Int)), none, some (.inl 0), none] [] σ (fun v σ1 => v = cM (zD Z) y p ∧ σ1 = σ) := fun hok => by
        have := inner (dm (zD Z)) 0 a (by omega) (by omega) hr (fun b' h => by omega) (fun hrow => ih (a + 1) (by omega) hw (fun a' h => by
          by_cases z : a' = a
          · rw [z]; exact hok
          · exact he a' (by omega)) (fun a' h => by
          by_cases z : a' = a
          · rw [z]; exact hrow
          · exact hr a' (by omega)))
        rw [show sumF (fun b => ld (zD Z) y a b * wy (zD Z) p a b) 0 = 0 from rfl, Int.add_zero] at this
        exact this
      refine rX11_costOf_31 ⟨fun h => by omega, fun _ => ?_⟩
      rw [Int.toNat_natCast, hp.pg ha, Int.toNat_natCast, e87, hM.b]
      refine ⟨by omega, by omega, by omega, by omega, fun h => go (Or.inl (by omega)), fun h => ⟨fun h1 => hfar (fun r => ?_), fun h1 => ⟨fun h2 => go (Or.inr ⟨h1, h2⟩), fun h2 => hfar (fun r => ?_)⟩⟩⟩
      · have := r.1 _ (pg_mem ha)
        unfold okE at this
        omega
      · have := r.1 _ (pg_mem ha)
        unfold okE at this
        omega
  have wish : ∀ (d i : Nat), i + d = dwn (zD Z) → (∀ j, j < i → metW (zD Z) j (wy (zD Z) p (dwa (zD Z) j).toNat (dwb (zD Z) j).toNat)) → GO none mX11_costOf 4 [some (.inr 73), some (.inl (y : Int)), some (.inl 0), some (.inl (i : Int)), none, none, none] [] σ (fun v σ1 => v = cM (zD Z) y p ∧ σ1 = σ) := by
    intro d
    have hww := hM.w
    have hw6 := hZ.wf.2.2.2.2.2.2.2.2.2.2.1
    induction d with
    | zero =>
      intro i hd hw
      refine rX11_costOf_4 ⟨fun _ => ?_, fun h => by omega⟩
      exact outer (dm (zD Z)) 0 (by omega) (fun j hj => hw j (by omega)) (fun _ h => by omega) (fun _ h => by omega)
    | succ d ih =>
      intro i hd hw
      refine rX11_costOf_4 ⟨fun h => by omega, fun _ => CM.mono (fun v σ1 hq => ?_) (c_X11_meets (i := i) hZ hM hL hl hs hp (by omega) rfl)⟩
      obtain ⟨hv, rfl⟩ := hq
      refine ⟨fun h => ⟨by omega, ?_⟩, fun h => hfar (fun r => ?_)⟩
      · have hm := (hv.resolve_right (fun z => h z.1)).2
        exact ih (i + 1) (by omega) (fun j hj => by
          by_cases z : j = i
          · rw [z]; exact hm
          · exact hw j (by omega))
      · have hm := (hv.resolve_left (fun z => by omega)).2
        exact hm (r.2.1 i (by omega))
  exact rX11_costOf_0 (wish (dwn (zD Z)) 0 (by omega) (fun _ h => by omega))
theorem cM_bd {Z : Zt} (hZ : GZ Z) {y : Nat} {p : List Nat} (hy : y < 4) (hl : p.length = dm (zD Z)) (hs : ∀ s ∈ p, s < dn (zD Z)) : (cost (zD Z) y p = -1 ∧ cM (zD Z) y p = 100000000) ∨ (cost (zD Z) y p ≠ -1 ∧ cM (zD Z) y p = cost (zD Z) y p ∧ 0 ≤ cost (zD Z) y p ∧ cost (zD Z) y p ≤ 89100) := by
  unfold cM
  by_cases h : cost (zD Z) y p = -1
  · exact Or.inl ⟨h, if_pos h⟩
  · rcases cost_bd hZ.wf hy hl hs with w | w
    · exact absurd w h
    · exact Or.inr ⟨h, if_neg h, w⟩
theorem ML.same {Z : Zt} {S : List Nat} {σ σ1 : Mem} (h : ML Z σ) (hS : Same S σ σ1) (h1 : 86 ∉ S) (h2 : 87 ∉ S) : ML Z σ1 := by
  intro a ha
  rw [hS 86 h1, hS 87 h2]
  exact h a ha
theorem c_X11_cost {Z Z' : Zt} {σ : Mem} {y v : Int} (hZ : GZ Z) (hM : MI Z σ) (hN : nxA Z (aYr y (fun k v => v = cost (zD Z) k (zh Z))) v Z') : CM mX11_cost [.inr 73, .inl y] σ (RQ σ v Z') := by
  obtain ⟨hA, rfl⟩ := hN
  refine rX11_cost_0 ⟨fun h => ?_, fun h => ?_⟩
  · obtain ⟨k, hk, ey, e2⟩ := isY_nat h
    have hv : v = cost (zD Z') k (zh Z') := by
      rcases hA with ⟨-, w⟩ | ⟨w, -⟩
      · rw [← e2]; exact w
      · exact absurd h w
    refine CM.mono (fun _ σ1 hq => ?_) (c_X11_layFloor hZ hM)
    obtain ⟨hL, hS⟩ := hq
    have hM1 := hM.same (MSm.same hS (by decide)) (by decide)
    refine CM.mono (fun _ σ2 hq => ?_) (c_X11_takeNow hZ hM1)
    obtain ⟨hh, hS2⟩ := hq
    have hM2 := hM1.same (MSm.same hS2 (by decide)) (by decide)
    refine CM.mono (fun w σ3 hq => ?_) (c_X11_costOf (y := k) hZ hM2 (hL.same hS2 (by decide) (by decide)) hZ.len hZ.ok.1 hh hk ey)
    obtain ⟨rfl, rfl⟩ := hq
    have hb := cM_bd hZ (y := k) hk hZ.len hZ.ok.1
    refine ⟨fun h0 => ⟨by omega, hM2, (hS.wk (by decide)).tr (hS2.wk (by decide))⟩, fun h0 => ⟨by omega, hM2, (hS.wk (by decide)).tr (hS2.wk (by decide))⟩⟩
  · rcases hA with ⟨w, -⟩ | ⟨-, rfl⟩
    · exact absurd w h
    · exact ⟨rfl, hM, Same.rf⟩
