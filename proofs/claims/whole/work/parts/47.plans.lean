/-! ===== the reference: plans over years ===== -/
set_option maxRecDepth 100000 in
theorem rX11_isSpan_0 {x0 : Int}  {σ : Mem} {Q : Int → Mem → Prop} (h : ((((if 1 ≤ x0 ∧ x0 ≤ 4 then 1 else 0) : Int) = 0 ∨ ((if 1 ≤ x0 ∧ x0 ≤ 4 then 1 else 0) : Int) = 1) ∧ (Q (if 1 ≤ x0 ∧ x0 ≤ 4 then 1 else 0) σ))) : CM mX11_isSpan [.inl x0] σ Q := by
  refine CM_of_GO (by decide +kernel) rfl (Nat.le_of_ble_eq_true rfl) ?_
  show GO none mX11_isSpan 0 [some (.inl x0)] [] σ Q
  refine g_iload_n dX11_isSpan_0 rfl rfl ?_
  refine g_iconst dX11_isSpan_1 (by decide) ?_
  refine g_iconst dX11_isSpan_2 (by decide) ?_
  refine g_invSI (as := [.inl x0, .inl 1, .inl 4]) (rest := []) okX11_in rfl mlX11_78 rfl ⟨Nat.le_of_ble_eq_true rfl, Nat.le_of_ble_eq_true rfl⟩ (Nat.le_of_ble_eq_true rfl) rfl dX11_isSpan_3 (c_X11_in) (Or.inr rfl) (fun v1 σ2 e3 => ?_)
  obtain ⟨e3a, e3b⟩ := e3; subst v1; subst σ2
  obtain ⟨p4, h⟩ := h
  exact g_zreturn rfl dX11_isSpan_6 p4 h
set_option maxRecDepth 100000 in
theorem rX11_changed_0 {x1 x2 : Int}  {σ : Mem} {Q : Int → Mem → Prop} (h : ((0 ≤ x1) ∧ (((x1 < 720) ∧ (CM mX11_layRow [.inr 73, .inl (σ 92 (x1).toNat)] σ (fun v3 σ4 => GO none mX11_changed 13 [some (.inr 73), some (.inl x1), some (.inl x2), some (.inl 0), none] [] σ4 Q)))))) : CM mX11_changed [.inr 73, .inl x1, .inl x2] σ Q := by
  refine CM_of_GO (by decide +kernel) rfl (Nat.le_of_ble_eq_true rfl) ?_
  show GO none mX11_changed 0 [some (.inr 73), some (.inl x1), some (.inl x2), none, none] [] σ Q
  refine g_aload_n dX11_changed_0 rfl rfl ?_
  refine g_aload_n dX11_changed_1 rfl rfl ?_
  refine g_getR (r' := 92) flX11_69 (by decide) rfl (by decide) rfl dX11_changed_2 ?_
  refine g_iload_n dX11_changed_5 rfl rfl ?_
  obtain ⟨p1, h⟩ := h
  obtain ⟨p2, h⟩ := h
  refine g_iald (by decide) rfl p1 p2 dX11_changed_6 ?_
  refine g_invVI (as := [.inl (σ 92 (x1).toNat)]) (rest := []) okX11_layRow mlX11_149 (by decide) rfl ⟨_, _, rfl⟩ rfl ⟨Nat.le_of_ble_eq_true rfl, Nat.le_of_ble_eq_true rfl⟩ (Nat.le_of_ble_eq_true rfl) rfl dX11_changed_7 h (Or.inr rfl) (fun v3 σ4 e5 => ?_)
  have h := e5
  refine g_pop dX11_changed_10 ?_
  refine g_iconst dX11_changed_11 (by decide) ?_
  refine g_istore_n (ls' := [some (.inr 73), some (.inl x1), some (.inl x2), some (.inl 0), none]) dX11_changed_12 rfl (by decide) rfl ?_
  exact h
set_option maxRecDepth 100000 in
theorem rX11_changed_13 {x1 x2 x3 : Int}  {σ : Mem} {Q : Int → Mem → Prop} (h : ((σ 73 5) ≤ x3 → ((0 ≤ x2) ∧ (((x2 < 720) ∧ (CM mX11_layRow [.inr 73, .inl (σ 92 (x2).toNat)] σ (fun v4 σ5 => GO none mX11_changed 55 [some (.inr 73), some (.inl x1), some (.inl x2), some (.inl 0), some (.inl 0)] [] σ5 Q)))))) ∧ (x3 < (σ 73 5) → ((0 ≤ x3) ∧ (((x3 < 5) ∧ (((inR (x3 + 1)) ∧ (GO none mX11_changed 13 [some (.inr 73), some (.inl x1), some (.inl x2), some (.inl (x3 + 1)), none] [] (mu σ 94 (x3).toNat (σ 88 (x3).toNat)) Q)))))))) : GO none mX11_changed 13 [some (.inr 73), some (.inl x1), some (.inl x2), some (.inl x3), none] [] σ Q := by
  refine g_iload_n dX11_changed_13 rfl rfl ?_
  refine g_aload_n dX11_changed_14 rfl rfl ?_
  refine g_getI flX11_85 (by decide) rfl (by decide) rfl dX11_changed_15 ?_
  refine g_icmp_ge (tgt := 39) dX11_changed_18 (by decide) (fun c1 => ?_) (fun c1 => ?_)
  · have h := h.1 c1
    refine g_aload_n dX11_changed_39 rfl rfl ?_
    refine g_aload_n dX11_changed_40 rfl rfl ?_
    refine g_getR (r' := 92) flX11_69 (by decide) rfl (by decide) rfl dX11_changed_41 ?_
    refine g_iload_n dX11_changed_44 rfl rfl ?_
    obtain ⟨p2, h⟩ := h
    obtain ⟨p3, h⟩ := h
    refine g_iald (by decide) rfl p2 p3 dX11_changed_45 ?_
    refine g_invVI (as := [.inl (σ 92 (x2).toNat)]) (rest := []) okX11_layRow mlX11_149 (by decide) rfl ⟨_, _, rfl⟩ rfl ⟨Nat.le_of_ble_eq_true rfl, Nat.le_of_ble_eq_true rfl⟩ (Nat.le_of_ble_eq_true rfl) rfl dX11_changed_46 h (Or.inr rfl) (fun v4 σ5 e6 => ?_)
    have h := e6
    refine g_pop dX11_changed_49 ?_
    refine g_iconst dX11_changed_50 (by decide) ?_
    refine g_istore_n (ls' := [some (.inr 73), some (.inl x1), some (.inl x2), some (.inl 0), none]) dX11_changed_51 rfl (by decide) rfl ?_
    refine g_iconst dX11_changed_52 (by decide) ?_
    refine g_istore (ls' := [some (.inr 73), some (.inl x1), some (.inl x2), some (.inl 0), some (.inl 0)]) dX11_changed_53 (by decide) rfl ?_
    exact h
  · have h := h.2 c1
    refine g_aload_n dX11_changed_21 rfl rfl ?_
    refine g_getR (r' := 94) flX11_75 (by decide) rfl (by decide) rfl dX11_changed_22 ?_
    refine g_iload_n dX11_changed_25 rfl rfl ?_
    refine g_aload_n dX11_changed_26 rfl rfl ?_
    refine g_getR (r' := 88) flX11_57 (by decide) rfl (by decide) rfl dX11_changed_27 ?_
    refine g_iload_n dX11_changed_30 rfl rfl ?_
    obtain ⟨p7, h⟩ := h
    obtain ⟨p8, h⟩ := h
    refine g_iald (by decide) rfl p7 p8 dX11_changed_31 ?_
    refine g_iast (by decide) rfl p7 p8 dX11_changed_32 ?_
    obtain ⟨p9, h⟩ := h
    refine g_iinc (ls' := [some (.inr 73), some (.inl x1), some (.inl x2), some (.inl (x3 + 1)), none]) dX11_changed_33 (by decide) rfl p9 rfl ?_
    refine g_goto (tgt := 13) dX11_changed_36 (by decide) ?_
    exact h
set_option maxRecDepth 100000 in
theorem rX11_changed_55 {x1 x2 x3 x4 : Int}  {σ : Mem} {Q : Int → Mem → Prop} (h : ((σ 73 5) ≤ x4 → Q x3 σ) ∧ (x4 < (σ 73 5) → ((0 ≤ x4) ∧ (((x4 < 5) ∧ (((σ 88 (x4).toNat) ≠ (σ 94 (x4).toNat) → ((inR (x3 + (σ 79 (x4).toNat))) ∧ (((inR (x4 + 1)) ∧ (GO none mX11_changed 55 [some (.inr 73), some (.inl x1), some (.inl x2), some (.inl (x3 + (σ 79 (x4).toNat))), some (.inl (x4 + 1))] [] σ Q))))) ∧ ((σ 88 (x4).toNat) = (σ 94 (x4).toNat) → ((inR (x3 + 0)) ∧ (((inR (x4 + 1)) ∧ (GO none mX11_changed 55 [some (.inr 73), some (.inl x1), some (.inl x2), some (.inl (x3 + 0)), some (.inl (x4 + 1))] [] σ Q))))))))))) : GO none mX11_changed 55 [some (.inr 73), some (.inl x1), some (.inl x2), some (.inl x3), some (.inl x4)] [] σ Q := by
  refine g_iload dX11_changed_55 rfl ?_
  refine g_aload_n dX11_changed_57 rfl rfl ?_
  refine g_getI flX11_85 (by decide) rfl (by decide) rfl dX11_changed_58 ?_
  refine g_icmp_ge (tgt := 101) dX11_changed_61 (by decide) (fun c1 => ?_) (fun c1 => ?_)
  · have h := h.1 c1
    refine g_iload_n dX11_changed_101 rfl rfl ?_
    exact g_ireturn rfl dX11_changed_102 h
  · have h := h.2 c1
    refine g_iload_n dX11_changed_64 rfl rfl ?_
    refine g_aload_n dX11_changed_65 rfl rfl ?_
    refine g_getR (r' := 88) flX11_57 (by decide) rfl (by decide) rfl dX11_changed_66 ?_
    refine g_iload dX11_changed_69 rfl ?_
    obtain ⟨p2, h⟩ := h
    obtain ⟨p3, h⟩ := h
    refine g_iald (by decide) rfl p2 p3 dX11_changed_71 ?_
    refine g_aload_n dX11_changed_72 rfl rfl ?_
    refine g_getR (r' := 94) flX11_75 (by decide) rfl (by decide) rfl dX11_changed_73 ?_
    refine g_iload dX11_changed_76 rfl ?_
    refine g_iald (by decide) rfl p2 p3 dX11_changed_78 ?_
    refine g_icmp_ne (tgt := 86) dX11_changed_79 (by decide) (fun c4 => ?_) (fun c4 => ?_)
    · have h := h.1 c4
      refine g_aload_n dX11_changed_86 rfl rfl ?_
      refine g_getR (r' := 79) flX11_30 (by decide) rfl (by decide) rfl dX11_changed_87 ?_
      refine g_iload dX11_changed_90 rfl ?_
      refine g_iald (by decide) rfl p2 p3 dX11_changed_92 ?_
      obtain ⟨p5, h⟩ := h
      refine g_iadd dX11_changed_93 p5 ?_
      refine g_istore_n (ls' := [some (.inr 73), some (.inl x1), some (.inl x2), some (.inl (x3 + (σ 79 (x4).toNat))), some (.inl x4)]) dX11_changed_94 rfl (by decide) rfl ?_
      obtain ⟨p6, h⟩ := h
      refine g_iinc (ls' := [some (.inr 73), some (.inl x1), some (.inl x2), some (.inl (x3 + (σ 79 (x4).toNat))), some (.inl (x4 + 1))]) dX11_changed_95 (by decide) rfl p6 rfl ?_
      refine g_goto (tgt := 55) dX11_changed_98 (by decide) ?_
      exact h
    · have h := h.2 c4
      refine g_iconst dX11_changed_82 (by decide) ?_
      refine g_goto (tgt := 93) dX11_changed_83 (by decide) ?_
      obtain ⟨p7, h⟩ := h
      refine g_iadd dX11_changed_93 p7 ?_
      refine g_istore_n (ls' := [some (.inr 73), some (.inl x1), some (.inl x2), some (.inl (x3 + 0)), some (.inl x4)]) dX11_changed_94 rfl (by decide) rfl ?_
      obtain ⟨p8, h⟩ := h
      refine g_iinc (ls' := [some (.inr 73), some (.inl x1), some (.inl x2), some (.inl (x3 + 0)), some (.inl (x4 + 1))]) dX11_changed_95 (by decide) rfl p8 rfl ?_
      refine g_goto (tgt := 55) dX11_changed_98 (by decide) ?_
      exact h
set_option maxRecDepth 100000 in
theorem rX11_firstOf_0 {x1 x2 : Int}  {σ : Mem} {Q : Int → Mem → Prop} (h : GO none mX11_firstOf 9 [some (.inr 73), some (.inl x1), some (.inl x2), some (.inl (-1)), some (.inl 100000000), some (.inl 0), none] [] σ Q) : CM mX11_firstOf [.inr 73, .inl x1, .inl x2] σ Q := by
  refine CM_of_GO (by decide +kernel) rfl (Nat.le_of_ble_eq_true rfl) ?_
  show GO none mX11_firstOf 0 [some (.inr 73), some (.inl x1), some (.inl x2), none, none, none, none] [] σ Q
  refine g_iconst dX11_firstOf_0 (by decide) ?_
  refine g_istore_n (ls' := [some (.inr 73), some (.inl x1), some (.inl x2), some (.inl (-1)), none, none, none]) dX11_firstOf_1 rfl (by decide) rfl ?_
  refine g_ldc (n := 100000000) dX11_firstOf_2 kcX11_138 (by decide) (by decide) ?_
  refine g_istore (ls' := [some (.inr 73), some (.inl x1), some (.inl x2), some (.inl (-1)), some (.inl 100000000), none, none]) dX11_firstOf_4 (by decide) rfl ?_
  refine g_iconst dX11_firstOf_6 (by decide) ?_
  refine g_istore (ls' := [some (.inr 73), some (.inl x1), some (.inl x2), some (.inl (-1)), some (.inl 100000000), some (.inl 0), none]) dX11_firstOf_7 (by decide) rfl ?_
  exact h
set_option maxRecDepth 100000 in
theorem rX11_firstOf_9 {x1 x2 x3 x4 x5 : Int}  {σ : Mem} {Q : Int → Mem → Prop} (h : ((σ 73 26) ≤ x5 → Q x3 σ) ∧ (x5 < (σ 73 26) → ((inR (720 * x1)) ∧ (((inR ((720 * x1) + x5)) ∧ (((0 ≤ ((720 * x1) + x5)) ∧ (((((720 * x1) + x5) < 2880) ∧ ((100000000 ≤ (σ 93 (((720 * x1) + x5)).toNat) → ((inR ((σ 93 (((720 * x1) + x5)).toNat) + 0)) ∧ ((x4 ≤ ((σ 93 (((720 * x1) + x5)).toNat) + 0) → ((inR (x5 + 1)) ∧ (GO none mX11_firstOf 9 [some (.inr 73), some (.inl x1), some (.inl x2), some (.inl x3), some (.inl x4), some (.inl (x5 + 1)), none] [] σ Q))) ∧ (((σ 93 (((720 * x1) + x5)).toNat) + 0) < x4 → ((inR (x5 + 1)) ∧ (GO none mX11_firstOf 9 [some (.inr 73), some (.inl x1), some (.inl x2), some (.inl x5), some (.inl ((σ 93 (((720 * x1) + x5)).toNat) + 0)), some (.inl (x5 + 1)), none] [] σ Q)))))) ∧ ((σ 93 (((720 * x1) + x5)).toNat) < 100000000 → (x2 = (-1) → ((inR ((σ 93 (((720 * x1) + x5)).toNat) + 0)) ∧ ((x4 ≤ ((σ 93 (((720 * x1) + x5)).toNat) + 0) → ((inR (x5 + 1)) ∧ (GO none mX11_firstOf 9 [some (.inr 73), some (.inl x1), some (.inl x2), some (.inl x3), some (.inl x4), some (.inl (x5 + 1)), none] [] σ Q))) ∧ (((σ 93 (((720 * x1) + x5)).toNat) + 0) < x4 → ((inR (x5 + 1)) ∧ (GO none mX11_firstOf 9 [some (.inr 73), some (.inl x1), some (.inl x2), some (.inl x5), some (.inl ((σ 93 (((720 * x1) + x5)).toNat) + 0)), some (.inl (x5 + 1)), none] [] σ Q)))))) ∧ (x2 ≠ (-1) → CM mX11_changed [.inr 73, .inl x2, .inl x5] σ (fun v16 σ17 => ((inR ((σ 93 (((720 * x1) + x5)).toNat) + v16)) ∧ ((x4 ≤ ((σ 93 (((720 * x1) + x5)).toNat) + v16) → ((inR (x5 + 1)) ∧ (GO none mX11_firstOf 9 [some (.inr 73), some (.inl x1), some (.inl x2), some (.inl x3), some (.inl x4), some (.inl (x5 + 1)), none] [] σ17 Q))) ∧ (((σ 93 (((720 * x1) + x5)).toNat) + v16) < x4 → ((inR (x5 + 1)) ∧ (GO none mX11_firstOf 9 [some (.inr 73), some (.inl x1), some (.inl x2), some (.inl x5), some (.inl ((σ 93 (((720 * x1) + x5)).toNat) + v16)), some (.inl (x5 + 1)), none] [] σ17 Q)))))))))))))))))) : GO none mX11_firstOf 9 [some (.inr 73), some (.inl x1), some (.inl x2), some (.inl x3), some (.inl x4), some (.inl x5), none] [] σ Q := by
  refine g_iload dX11_firstOf_9 rfl ?_
  refine g_aload_n dX11_firstOf_11 rfl rfl ?_
  refine g_getI flX11_187 (by decide) rfl (by decide) rfl dX11_firstOf_12 ?_
  refine g_icmp_ge (tgt := 81) dX11_firstOf_15 (by decide) (fun c1 => ?_) (fun c1 => ?_)
  · have h := h.1 c1
    refine g_iload_n dX11_firstOf_81 rfl rfl ?_
    exact g_ireturn rfl dX11_firstOf_82 h
  · have h := h.2 c1
    refine g_aload_n dX11_firstOf_18 rfl rfl ?_
    refine g_getR (r' := 93) flX11_72 (by decide) rfl (by decide) rfl dX11_firstOf_19 ?_
    refine g_sipush dX11_firstOf_22 (by decide) (by decide) ?_
    refine g_iload_n dX11_firstOf_25 rfl rfl ?_
    obtain ⟨p2, h⟩ := h
    refine g_imul dX11_firstOf_26 p2 ?_
    refine g_iload dX11_firstOf_27 rfl ?_
    obtain ⟨p3, h⟩ := h
    refine g_iadd dX11_firstOf_29 p3 ?_
    obtain ⟨p4, h⟩ := h
    obtain ⟨p5, h⟩ := h
    refine g_iald (by decide) rfl p4 p5 dX11_firstOf_30 ?_
    refine g_istore (ls' := [some (.inr 73), some (.inl x1), some (.inl x2), some (.inl x3), some (.inl x4), some (.inl x5), some (.inl (σ 93 (((720 * x1) + x5)).toNat))]) dX11_firstOf_31 (by decide) rfl ?_
    refine g_iload dX11_firstOf_33 rfl ?_
    refine g_iload dX11_firstOf_35 rfl ?_
    refine g_ldc (n := 100000000) dX11_firstOf_37 kcX11_138 (by decide) (by decide) ?_
    refine g_icmp_ge (tgt := 57) dX11_firstOf_39 (by decide) (fun c6 => ?_) (fun c6 => ?_)
    · have h := h.1 c6
      refine g_iconst dX11_firstOf_57 (by decide) ?_
      obtain ⟨p7, h⟩ := h
      refine g_iadd dX11_firstOf_58 p7 ?_
      refine g_istore (ls' := [some (.inr 73), some (.inl x1), some (.inl x2), some (.inl x3), some (.inl x4), some (.inl x5), some (.inl ((σ 93 (((720 * x1) + x5)).toNat) + 0))]) dX11_firstOf_59 (by decide) rfl ?_
      refine g_iload dX11_firstOf_61 rfl ?_
      refine g_iload dX11_firstOf_63 rfl ?_
      refine g_icmp_ge (tgt := 75) dX11_firstOf_65 (by decide) (fun c8 => ?_) (fun c8 => ?_)
      · have h := h.1 c8
        obtain ⟨p9, h⟩ := h
        refine g_iinc (ls' := [some (.inr 73), some (.inl x1), some (.inl x2), some (.inl x3), some (.inl x4), some (.inl (x5 + 1)), some (.inl ((σ 93 (((720 * x1) + x5)).toNat) + 0))]) dX11_firstOf_75 (by decide) rfl p9 rfl ?_
        refine g_goto (tgt := 9) dX11_firstOf_78 (by decide) ?_
        refine g_kill (i := 6) (ls' := [some (.inr 73), some (.inl x1), some (.inl x2), some (.inl x3), some (.inl x4), some (.inl (x5 + 1)), none]) rfl ?_
        exact h
      · have h := h.2 c8
        refine g_iload dX11_firstOf_68 rfl ?_
        refine g_istore (ls' := [some (.inr 73), some (.inl x1), some (.inl x2), some (.inl x3), some (.inl ((σ 93 (((720 * x1) + x5)).toNat) + 0)), some (.inl x5), some (.inl ((σ 93 (((720 * x1) + x5)).toNat) + 0))]) dX11_firstOf_70 (by decide) rfl ?_
        refine g_iload dX11_firstOf_72 rfl ?_
        refine g_istore_n (ls' := [some (.inr 73), some (.inl x1), some (.inl x2), some (.inl x5), some (.inl ((σ 93 (((720 * x1) + x5)).toNat) + 0)), some (.inl x5), some (.inl ((σ 93 (((720 * x1) + x5)).toNat) + 0))]) dX11_firstOf_74 rfl (by decide) rfl ?_
        obtain ⟨p10, h⟩ := h
        refine g_iinc (ls' := [some (.inr 73), some (.inl x1), some (.inl x2), some (.inl x5), some (.inl ((σ 93 (((720 * x1) + x5)).toNat) + 0)), some (.inl (x5 + 1)), some (.inl ((σ 93 (((720 * x1) + x5)).toNat) + 0))]) dX11_firstOf_75 (by decide) rfl p10 rfl ?_
        refine g_goto (tgt := 9) dX11_firstOf_78 (by decide) ?_
        refine g_kill (i := 6) (ls' := [some (.inr 73), some (.inl x1), some (.inl x2), some (.inl x5), some (.inl ((σ 93 (((720 * x1) + x5)).toNat) + 0)), some (.inl (x5 + 1)), none]) rfl ?_
        exact h
    · have h := h.2 c6
      refine g_iload_n dX11_firstOf_42 rfl rfl ?_
      refine g_iconst dX11_firstOf_43 (by decide) ?_
      refine g_icmp_eq (tgt := 57) dX11_firstOf_44 (by decide) (fun c11 => ?_) (fun c11 => ?_)
      · have h := h.1 c11
        refine g_iconst dX11_firstOf_57 (by decide) ?_
        obtain ⟨p12, h⟩ := h
        refine g_iadd dX11_firstOf_58 p12 ?_
        refine g_istore (ls' := [some (.inr 73), some (.inl x1), some (.inl x2), some (.inl x3), some (.inl x4), some (.inl x5), some (.inl ((σ 93 (((720 * x1) + x5)).toNat) + 0))]) dX11_firstOf_59 (by decide) rfl ?_
        refine g_iload dX11_firstOf_61 rfl ?_
        refine g_iload dX11_firstOf_63 rfl ?_
        refine g_icmp_ge (tgt := 75) dX11_firstOf_65 (by decide) (fun c13 => ?_) (fun c13 => ?_)
        · have h := h.1 c13
          obtain ⟨p14, h⟩ := h
          refine g_iinc (ls' := [some (.inr 73), some (.inl x1), some (.inl x2), some (.inl x3), some (.inl x4), some (.inl (x5 + 1)), some (.inl ((σ 93 (((720 * x1) + x5)).toNat) + 0))]) dX11_firstOf_75 (by decide) rfl p14 rfl ?_
          refine g_goto (tgt := 9) dX11_firstOf_78 (by decide) ?_
          refine g_kill (i := 6) (ls' := [some (.inr 73), some (.inl x1), some (.inl x2), some (.inl x3), some (.inl x4), some (.inl (x5 + 1)), none]) rfl ?_
          exact h
        · have h := h.2 c13
          refine g_iload dX11_firstOf_68 rfl ?_
          refine g_istore (ls' := [some (.inr 73), some (.inl x1), some (.inl x2), some (.inl x3), some (.inl ((σ 93 (((720 * x1) + x5)).toNat) + 0)), some (.inl x5), some (.inl ((σ 93 (((720 * x1) + x5)).toNat) + 0))]) dX11_firstOf_70 (by decide) rfl ?_
          refine g_iload dX11_firstOf_72 rfl ?_
          refine g_istore_n (ls' := [some (.inr 73), some (.inl x1), some (.inl x2), some (.inl x5), some (.inl ((σ 93 (((720 * x1) + x5)).toNat) + 0)), some (.inl x5), some (.inl ((σ 93 (((720 * x1) + x5)).toNat) + 0))]) dX11_firstOf_74 rfl (by decide) rfl ?_
          obtain ⟨p15, h⟩ := h
          refine g_iinc (ls' := [some (.inr 73), some (.inl x1), some (.inl x2), some (.inl x5), some (.inl ((σ 93 (((720 * x1) + x5)).toNat) + 0)), some (.inl (x5 + 1)), some (.inl ((σ 93 (((720 * x1) + x5)).toNat) + 0))]) dX11_firstOf_75 (by decide) rfl p15 rfl ?_
          refine g_goto (tgt := 9) dX11_firstOf_78 (by decide) ?_
          refine g_kill (i := 6) (ls' := [some (.inr 73), some (.inl x1), some (.inl x2), some (.inl x5), some (.inl ((σ 93 (((720 * x1) + x5)).toNat) + 0)), some (.inl (x5 + 1)), none]) rfl ?_
          exact h
      · have h := h.2 c11
        refine g_aload_n dX11_firstOf_47 rfl rfl ?_
        refine g_iload_n dX11_firstOf_48 rfl rfl ?_
        refine g_iload dX11_firstOf_49 rfl ?_
        refine g_invVI (as := [.inl x2, .inl x5]) (rest := [.inl (σ 93 (((720 * x1) + x5)).toNat)]) okX11_changed mlX11_190 (by decide) rfl ⟨_, _, rfl⟩ rfl ⟨Nat.le_of_ble_eq_true rfl, Nat.le_of_ble_eq_true rfl⟩ (Nat.le_of_ble_eq_true rfl) rfl dX11_firstOf_51 h (Or.inl rfl) (fun v16 σ17 e18 => ?_)
        have h := e18
        refine g_goto (tgt := 58) dX11_firstOf_54 (by decide) ?_
        obtain ⟨p19, h⟩ := h
        refine g_iadd dX11_firstOf_58 p19 ?_
        refine g_istore (ls' := [some (.inr 73), some (.inl x1), some (.inl x2), some (.inl x3), some (.inl x4), some (.inl x5), some (.inl ((σ 93 (((720 * x1) + x5)).toNat) + v16))]) dX11_firstOf_59 (by decide) rfl ?_
        refine g_iload dX11_firstOf_61 rfl ?_
        refine g_iload dX11_firstOf_63 rfl ?_
        refine g_icmp_ge (tgt := 75) dX11_firstOf_65 (by decide) (fun c20 => ?_) (fun c20 => ?_)
        · have h := h.1 c20
          obtain ⟨p21, h⟩ := h
          refine g_iinc (ls' := [some (.inr 73), some (.inl x1), some (.inl x2), some (.inl x3), some (.inl x4), some (.inl (x5 + 1)), some (.inl ((σ 93 (((720 * x1) + x5)).toNat) + v16))]) dX11_firstOf_75 (by decide) rfl p21 rfl ?_
          refine g_goto (tgt := 9) dX11_firstOf_78 (by decide) ?_
          refine g_kill (i := 6) (ls' := [some (.inr 73), some (.inl x1), some (.inl x2), some (.inl x3), some (.inl x4), some (.inl (x5 + 1)), none]) rfl ?_
          exact h
        · have h := h.2 c20
          refine g_iload dX11_firstOf_68 rfl ?_
          refine g_istore (ls' := [some (.inr 73), some (.inl x1), some (.inl x2), some (.inl x3), some (.inl ((σ 93 (((720 * x1) + x5)).toNat) + v16)), some (.inl x5), some (.inl ((σ 93 (((720 * x1) + x5)).toNat) + v16))]) dX11_firstOf_70 (by decide) rfl ?_
          refine g_iload dX11_firstOf_72 rfl ?_
          refine g_istore_n (ls' := [some (.inr 73), some (.inl x1), some (.inl x2), some (.inl x5), some (.inl ((σ 93 (((720 * x1) + x5)).toNat) + v16)), some (.inl x5), some (.inl ((σ 93 (((720 * x1) + x5)).toNat) + v16))]) dX11_firstOf_74 rfl (by decide) rfl ?_
          obtain ⟨p22, h⟩ := h
          refine g_iinc (ls' := [some (.inr 73), some (.inl x1), some (.inl x2), some (.inl x5), some (.inl ((σ 93 (((720 * x1) + x5)).toNat) + v16)), some (.inl (x5 + 1)), some (.inl ((σ 93 (((720 * x1) + x5)).toNat) + v16))]) dX11_firstOf_75 (by decide) rfl p22 rfl ?_
          refine g_goto (tgt := 9) dX11_firstOf_78 (by decide) ?_
          refine g_kill (i := 6) (ls' := [some (.inr 73), some (.inl x1), some (.inl x2), some (.inl x5), some (.inl ((σ 93 (((720 * x1) + x5)).toNat) + v16)), some (.inl (x5 + 1)), none]) rfl ?_
          exact h
set_option maxRecDepth 100000 in
theorem rX11_layPlans_0 {x1 : Int}  {σ : Mem} {Q : Int → Mem → Prop} (h : CM mX11_layFloor [.inr 73] σ (fun _ σ2 => CM mX11_allNumbers [.inr 73] (mu σ2 73 26 0) (fun v4 σ5 => GO none mX11_layPlans 16 [some (.inr 73), some (.inl x1), some (.inl v4), some (.inl 0), none, none, none, none, none] [] σ5 Q))) : CM mX11_layPlans [.inr 73, .inl x1] σ Q := by
  refine CM_of_GO (by decide +kernel) rfl (Nat.le_of_ble_eq_true rfl) ?_
  show GO none mX11_layPlans 0 [some (.inr 73), some (.inl x1), none, none, none, none, none, none, none] [] σ Q
  refine g_aload_n dX11_layPlans_0 rfl rfl ?_
  refine g_invVV (as := []) (rest := []) okX11_layFloor mlX11_104 (by decide) rfl ⟨_, _, rfl⟩ rfl ⟨Nat.le_of_ble_eq_true rfl, Nat.le_of_ble_eq_true rfl⟩ (Nat.le_of_ble_eq_true rfl) rfl dX11_layPlans_1 h rfl (fun σ2 e3 => ?_)
  have h := e3
  refine g_aload_n dX11_layPlans_4 rfl rfl ?_
  refine g_iconst dX11_layPlans_5 (by decide) ?_
  refine g_putI fpX11_187 (by decide) rfl (by decide) rfl (Or.inl rfl) dX11_layPlans_6 ?_
  refine g_aload_n dX11_layPlans_9 rfl rfl ?_
  refine g_invVI (as := []) (rest := []) okX11_allNumbers mlX11_116 (by decide) rfl ⟨_, _, rfl⟩ rfl ⟨Nat.le_of_ble_eq_true rfl, Nat.le_of_ble_eq_true rfl⟩ (Nat.le_of_ble_eq_true rfl) rfl dX11_layPlans_10 h (Or.inl rfl) (fun v4 σ5 e6 => ?_)
  have h := e6
  refine g_istore_n (ls' := [some (.inr 73), some (.inl x1), some (.inl v4), none, none, none, none, none, none]) dX11_layPlans_13 rfl (by decide) rfl ?_
  refine g_iconst dX11_layPlans_14 (by decide) ?_
  refine g_istore_n (ls' := [some (.inr 73), some (.inl x1), some (.inl v4), some (.inl 0), none, none, none, none, none]) dX11_layPlans_15 rfl (by decide) rfl ?_
  exact h
set_option maxRecDepth 100000 in
theorem rX11_layPlans_16 {x1 x2 x3 : Int}  {σ : Mem} {Q : Int → Mem → Prop} (h : (x2 ≤ x3 → ((inR (x1 - 1)) ∧ (GO none mX11_layPlans 59 [some (.inr 73), some (.inl x1), none, some (.inl (x1 - 1)), none, none, none, none, none] [] σ Q))) ∧ (x3 < x2 → CM mX11_layRow [.inr 73, .inl x3] σ (fun v3 σ4 => (v3 = 0 → ((inR (x3 + 1)) ∧ (GO none mX11_layPlans 16 [some (.inr 73), some (.inl x1), some (.inl x2), some (.inl (x3 + 1)), none, none, none, none, none] [] σ4 Q))) ∧ (v3 ≠ 0 → ((0 ≤ (σ4 73 26)) ∧ ((((σ4 73 26) < 720) ∧ (((inR ((σ4 73 26) + 1)) ∧ (((inR (x3 + 1)) ∧ (GO none mX11_layPlans 16 [some (.inr 73), some (.inl x1), some (.inl x2), some (.inl (x3 + 1)), none, none, none, none, none] [] (mu (mu σ4 92 ((σ4 73 26)).toNat x3) 73 26 ((σ4 73 26) + 1)) Q)))))))))))) : GO none mX11_layPlans 16 [some (.inr 73), some (.inl x1), some (.inl x2), some (.inl x3), none, none, none, none, none] [] σ Q := by
  refine g_iload_n dX11_layPlans_16 rfl rfl ?_
  refine g_iload_n dX11_layPlans_17 rfl rfl ?_
  refine g_icmp_ge (tgt := 55) dX11_layPlans_18 (by decide) (fun c1 => ?_) (fun c1 => ?_)
  · have h := h.1 c1
    refine g_iload_n dX11_layPlans_55 rfl rfl ?_
    refine g_iconst dX11_layPlans_56 (by decide) ?_
    obtain ⟨p2, h⟩ := h
    refine g_isub dX11_layPlans_57 p2 ?_
    refine g_istore_n (ls' := [some (.inr 73), some (.inl x1), some (.inl x2), some (.inl (x1 - 1)), none, none, none, none, none]) dX11_layPlans_58 rfl (by decide) rfl ?_
    refine g_kill (i := 2) (ls' := [some (.inr 73), some (.inl x1), none, some (.inl (x1 - 1)), none, none, none, none, none]) rfl ?_
    exact h
  · have h := h.2 c1
    refine g_aload_n dX11_layPlans_21 rfl rfl ?_
    refine g_iload_n dX11_layPlans_22 rfl rfl ?_
    refine g_invVI (as := [.inl x3]) (rest := []) okX11_layRow mlX11_149 (by decide) rfl ⟨_, _, rfl⟩ rfl ⟨Nat.le_of_ble_eq_true rfl, Nat.le_of_ble_eq_true rfl⟩ (Nat.le_of_ble_eq_true rfl) rfl dX11_layPlans_23 h (Or.inr rfl) (fun v3 σ4 e5 => ?_)
    have h := e5
    refine g_if_eq (tgt := 49) dX11_layPlans_26 (by decide) (fun c6 => ?_) (fun c6 => ?_)
    · have h := h.1 c6
      obtain ⟨p7, h⟩ := h
      refine g_iinc (ls' := [some (.inr 73), some (.inl x1), some (.inl x2), some (.inl (x3 + 1)), none, none, none, none, none]) dX11_layPlans_49 (by decide) rfl p7 rfl ?_
      refine g_goto (tgt := 16) dX11_layPlans_52 (by decide) ?_
      exact h
    · have h := h.2 c6
      refine g_aload_n dX11_layPlans_29 rfl rfl ?_
      refine g_getR (r' := 92) flX11_69 (by decide) rfl (by decide) rfl dX11_layPlans_30 ?_
      refine g_aload_n dX11_layPlans_33 rfl rfl ?_
      refine g_getI flX11_187 (by decide) rfl (by decide) rfl dX11_layPlans_34 ?_
      refine g_iload_n dX11_layPlans_37 rfl rfl ?_
      obtain ⟨p8, h⟩ := h
      obtain ⟨p9, h⟩ := h
      refine g_iast (by decide) rfl p8 p9 dX11_layPlans_38 ?_
      refine g_aload_n dX11_layPlans_39 rfl rfl ?_
      refine g_dup dX11_layPlans_40 ?_
      refine g_getI flX11_187 (by decide) rfl (by decide) rfl dX11_layPlans_41 ?_
      refine g_top (w := (σ4 73 26)) rfl ?_
      refine g_iconst dX11_layPlans_44 (by decide) ?_
      obtain ⟨p10, h⟩ := h
      refine g_iadd dX11_layPlans_45 p10 ?_
      refine g_putI fpX11_187 (by decide) rfl (by decide) rfl (Or.inl rfl) dX11_layPlans_46 ?_
      obtain ⟨p11, h⟩ := h
      refine g_iinc (ls' := [some (.inr 73), some (.inl x1), some (.inl x2), some (.inl (x3 + 1)), none, none, none, none, none]) dX11_layPlans_49 (by decide) rfl p11 rfl ?_
      refine g_goto (tgt := 16) dX11_layPlans_52 (by decide) ?_
      exact h
set_option maxRecDepth 100000 in
theorem rX11_layPlans_59 {x1 x3 : Int}  {σ : Mem} {Q : Int → Mem → Prop} (h : (x3 < 0 → Q 0 σ) ∧ (0 ≤ x3 → GO none mX11_layPlans 66 [some (.inr 73), some (.inl x1), none, some (.inl x3), some (.inl 0), none, none, none, none] [] σ Q)) : GO none mX11_layPlans 59 [some (.inr 73), some (.inl x1), none, some (.inl x3), none, none, none, none, none] [] σ Q := by
  refine g_iload_n dX11_layPlans_59 rfl rfl ?_
  refine g_if_lt (tgt := 257) dX11_layPlans_60 (by decide) (fun c1 => ?_) (fun c1 => ?_)
  · have h := h.1 c1
    exact g_return rfl dX11_layPlans_257 h
  · have h := h.2 c1
    refine g_iconst dX11_layPlans_63 (by decide) ?_
    refine g_istore (ls' := [some (.inr 73), some (.inl x1), none, some (.inl x3), some (.inl 0), none, none, none, none]) dX11_layPlans_64 (by decide) rfl ?_
    exact h
set_option maxRecDepth 100000 in
theorem rX11_layPlans_66 {x1 x3 x4 : Int}  {σ : Mem} {Q : Int → Mem → Prop} (h : ((σ 73 26) ≤ x4 → ((inR (x3 + (-1))) ∧ (GO none mX11_layPlans 59 [some (.inr 73), some (.inl x1), none, some (.inl (x3 + (-1))), none, none, none, none, none] [] σ Q))) ∧ (x4 < (σ 73 26) → ((0 ≤ x4) ∧ (((x4 < 720) ∧ (CM mX11_layRow [.inr 73, .inl (σ 92 (x4).toNat)] σ (fun v5 σ6 => CM mX11_costOf [.inr 73, .inl x3] σ6 (fun v8 σ9 => ((inR (x1 - 1)) ∧ ((x3 ≠ (x1 - 1) → GO none mX11_layPlans 112 [some (.inr 73), some (.inl x1), none, some (.inl x3), some (.inl x4), some (.inl v8), some (.inl 100000000), some (.inl 0), none] [] σ9 Q) ∧ (x3 = (x1 - 1) → GO none mX11_layPlans 112 [some (.inr 73), some (.inl x1), none, some (.inl x3), some (.inl x4), some (.inl v8), some (.inl 0), some (.inl 0), none] [] σ9 Q))))))))))) : GO none mX11_layPlans 66 [some (.inr 73), some (.inl x1), none, some (.inl x3), some (.inl x4), none, none, none, none] [] σ Q := by
  refine g_iload dX11_layPlans_66 rfl ?_
  refine g_aload_n dX11_layPlans_68 rfl rfl ?_
  refine g_getI flX11_187 (by decide) rfl (by decide) rfl dX11_layPlans_69 ?_
  refine g_icmp_ge (tgt := 251) dX11_layPlans_72 (by decide) (fun c1 => ?_) (fun c1 => ?_)
  · have h := h.1 c1
    obtain ⟨p2, h⟩ := h
    refine g_iinc (ls' := [some (.inr 73), some (.inl x1), none, some (.inl (x3 + (-1))), some (.inl x4), none, none, none, none]) dX11_layPlans_251 (by decide) rfl p2 rfl ?_
    refine g_goto (tgt := 59) dX11_layPlans_254 (by decide) ?_
    refine g_kill (i := 4) (ls' := [some (.inr 73), some (.inl x1), none, some (.inl (x3 + (-1))), none, none, none, none, none]) rfl ?_
    exact h
  · have h := h.2 c1
    refine g_aload_n dX11_layPlans_75 rfl rfl ?_
    refine g_aload_n dX11_layPlans_76 rfl rfl ?_
    refine g_getR (r' := 92) flX11_69 (by decide) rfl (by decide) rfl dX11_layPlans_77 ?_
    refine g_iload dX11_layPlans_80 rfl ?_
    obtain ⟨p3, h⟩ := h
    obtain ⟨p4, h⟩ := h
    refine g_iald (by decide) rfl p3 p4 dX11_layPlans_82 ?_
    refine g_invVI (as := [.inl (σ 92 (x4).toNat)]) (rest := []) okX11_layRow mlX11_149 (by decide) rfl ⟨_, _, rfl⟩ rfl ⟨Nat.le_of_ble_eq_true rfl, Nat.le_of_ble_eq_true rfl⟩ (Nat.le_of_ble_eq_true rfl) rfl dX11_layPlans_83 h (Or.inr rfl) (fun v5 σ6 e7 => ?_)
    have h := e7
    refine g_pop dX11_layPlans_86 ?_
    refine g_aload_n dX11_layPlans_87 rfl rfl ?_
    refine g_iload_n dX11_layPlans_88 rfl rfl ?_
    refine g_invVI (as := [.inl x3]) (rest := []) okX11_costOf mlX11_139 (by decide) rfl ⟨_, _, rfl⟩ rfl ⟨Nat.le_of_ble_eq_true rfl, Nat.le_of_ble_eq_true rfl⟩ (Nat.le_of_ble_eq_true rfl) rfl dX11_layPlans_89 h (Or.inl rfl) (fun v8 σ9 e10 => ?_)
    have h := e10
    refine g_istore (ls' := [some (.inr 73), some (.inl x1), none, some (.inl x3), some (.inl x4), some (.inl v8), none, none, none]) dX11_layPlans_92 (by decide) rfl ?_
    refine g_iload_n dX11_layPlans_94 rfl rfl ?_
    refine g_iload_n dX11_layPlans_95 rfl rfl ?_
    refine g_iconst dX11_layPlans_96 (by decide) ?_
    obtain ⟨p11, h⟩ := h
    refine g_isub dX11_layPlans_97 p11 ?_
    refine g_icmp_ne (tgt := 105) dX11_layPlans_98 (by decide) (fun c12 => ?_) (fun c12 => ?_)
    · have h := h.1 c12
      refine g_ldc (n := 100000000) dX11_layPlans_105 kcX11_138 (by decide) (by decide) ?_
      refine g_istore (ls' := [some (.inr 73), some (.inl x1), none, some (.inl x3), some (.inl x4), some (.inl v8), some (.inl 100000000), none, none]) dX11_layPlans_107 (by decide) rfl ?_
      refine g_iconst dX11_layPlans_109 (by decide) ?_
      refine g_istore (ls' := [some (.inr 73), some (.inl x1), none, some (.inl x3), some (.inl x4), some (.inl v8), some (.inl 100000000), some (.inl 0), none]) dX11_layPlans_110 (by decide) rfl ?_
      exact h
    · have h := h.2 c12
      refine g_iconst dX11_layPlans_101 (by decide) ?_
      refine g_goto (tgt := 107) dX11_layPlans_102 (by decide) ?_
      refine g_istore (ls' := [some (.inr 73), some (.inl x1), none, some (.inl x3), some (.inl x4), some (.inl v8), some (.inl 0), none, none]) dX11_layPlans_107 (by decide) rfl ?_
      refine g_iconst dX11_layPlans_109 (by decide) ?_
      refine g_istore (ls' := [some (.inr 73), some (.inl x1), none, some (.inl x3), some (.inl x4), some (.inl v8), some (.inl 0), some (.inl 0), none]) dX11_layPlans_110 (by decide) rfl ?_
      exact h
set_option maxRecDepth 100000 in
theorem rX11_layPlans_112 {x1 x3 x4 x5 x6 x7 : Int}  {σ : Mem} {Q : Int → Mem → Prop} (h : ((σ 73 26) ≤ x7 → ((inR (720 * x3)) ∧ (((inR ((720 * x3) + x4)) ∧ ((x5 = 100000000 → ((0 ≤ ((720 * x3) + x4)) ∧ (((((720 * x3) + x4) < 2880) ∧ (((inR (x4 + 1)) ∧ (GO none mX11_layPlans 66 [some (.inr 73), some (.inl x1), none, some (.inl x3), some (.inl (x4 + 1)), none, none, none, none] [] (mu σ 93 (((720 * x3) + x4)).toNat 100000000) Q))))))) ∧ (x5 ≠ 100000000 → (x6 ≠ 100000000 → ((inR (x5 + x6)) ∧ (((0 ≤ ((720 * x3) + x4)) ∧ (((((720 * x3) + x4) < 2880) ∧ (((inR (x4 + 1)) ∧ (GO none mX11_layPlans 66 [some (.inr 73), some (.inl x1), none, some (.inl x3), some (.inl (x4 + 1)), none, none, none, none] [] (mu σ 93 (((720 * x3) + x4)).toNat (x5 + x6)) Q))))))))) ∧ (x6 = 100000000 → ((0 ≤ ((720 * x3) + x4)) ∧ (((((720 * x3) + x4) < 2880) ∧ (((inR (x4 + 1)) ∧ (GO none mX11_layPlans 66 [some (.inr 73), some (.inl x1), none, some (.inl x3), some (.inl (x4 + 1)), none, none, none, none] [] (mu σ 93 (((720 * x3) + x4)).toNat 100000000) Q))))))))))))) ∧ (x7 < (σ 73 26) → ((inR (x1 - 1)) ∧ (((x1 - 1) ≤ x3 → ((inR (720 * x3)) ∧ (((inR ((720 * x3) + x4)) ∧ ((x5 = 100000000 → ((0 ≤ ((720 * x3) + x4)) ∧ (((((720 * x3) + x4) < 2880) ∧ (((inR (x4 + 1)) ∧ (GO none mX11_layPlans 66 [some (.inr 73), some (.inl x1), none, some (.inl x3), some (.inl (x4 + 1)), none, none, none, none] [] (mu σ 93 (((720 * x3) + x4)).toNat 100000000) Q))))))) ∧ (x5 ≠ 100000000 → (x6 ≠ 100000000 → ((inR (x5 + x6)) ∧ (((0 ≤ ((720 * x3) + x4)) ∧ (((((720 * x3) + x4) < 2880) ∧ (((inR (x4 + 1)) ∧ (GO none mX11_layPlans 66 [some (.inr 73), some (.inl x1), none, some (.inl x3), some (.inl (x4 + 1)), none, none, none, none] [] (mu σ 93 (((720 * x3) + x4)).toNat (x5 + x6)) Q))))))))) ∧ (x6 = 100000000 → ((0 ≤ ((720 * x3) + x4)) ∧ (((((720 * x3) + x4) < 2880) ∧ (((inR (x4 + 1)) ∧ (GO none mX11_layPlans 66 [some (.inr 73), some (.inl x1), none, some (.inl x3), some (.inl (x4 + 1)), none, none, none, none] [] (mu σ 93 (((720 * x3) + x4)).toNat 100000000) Q))))))))))))) ∧ (x3 < (x1 - 1) → (100000000 ≤ x5 → ((inR (720 * x3)) ∧ (((inR ((720 * x3) + x4)) ∧ ((x5 = 100000000 → ((0 ≤ ((720 * x3) + x4)) ∧ (((((720 * x3) + x4) < 2880) ∧ (((inR (x4 + 1)) ∧ (GO none mX11_layPlans 66 [some (.inr 73), some (.inl x1), none, some (.inl x3), some (.inl (x4 + 1)), none, none, none, none] [] (mu σ 93 (((720 * x3) + x4)).toNat 100000000) Q))))))) ∧ (x5 ≠ 100000000 → (x6 ≠ 100000000 → ((inR (x5 + x6)) ∧ (((0 ≤ ((720 * x3) + x4)) ∧ (((((720 * x3) + x4) < 2880) ∧ (((inR (x4 + 1)) ∧ (GO none mX11_layPlans 66 [some (.inr 73), some (.inl x1), none, some (.inl x3), some (.inl (x4 + 1)), none, none, none, none] [] (mu σ 93 (((720 * x3) + x4)).toNat (x5 + x6)) Q))))))))) ∧ (x6 = 100000000 → ((0 ≤ ((720 * x3) + x4)) ∧ (((((720 * x3) + x4) < 2880) ∧ (((inR (x4 + 1)) ∧ (GO none mX11_layPlans 66 [some (.inr 73), some (.inl x1), none, some (.inl x3), some (.inl (x4 + 1)), none, none, none, none] [] (mu σ 93 (((720 * x3) + x4)).toNat 100000000) Q))))))))))))) ∧ (x5 < 100000000 → ((inR (x3 + 1)) ∧ (((inR (720 * (x3 + 1))) ∧ (((inR ((720 * (x3 + 1)) + x7)) ∧ (((0 ≤ ((720 * (x3 + 1)) + x7)) ∧ (((((720 * (x3 + 1)) + x7) < 2880) ∧ (((σ 93 (((720 * (x3 + 1)) + x7)).toNat) ≠ 100000000 → CM mX11_changed [.inr 73, .inl x4, .inl x7] σ (fun v53 σ54 => ((inR ((σ 93 (((720 * (x3 + 1)) + x7)).toNat) + v53)) ∧ ((x6 ≤ ((σ 93 (((720 * (x3 + 1)) + x7)).toNat) + v53) → ((inR (x7 + 1)) ∧ (GO none mX11_layPlans 112 [some (.inr 73), some (.inl x1), none, some (.inl x3), some (.inl x4), some (.inl x5), some (.inl x6), some (.inl (x7 + 1)), none] [] σ54 Q))) ∧ (((σ 93 (((720 * (x3 + 1)) + x7)).toNat) + v53) < x6 → ((inR (x7 + 1)) ∧ (GO none mX11_layPlans 112 [some (.inr 73), some (.inl x1), none, some (.inl x3), some (.inl x4), some (.inl x5), some (.inl ((σ 93 (((720 * (x3 + 1)) + x7)).toNat) + v53)), some (.inl (x7 + 1)), none] [] σ54 Q))))))) ∧ ((σ 93 (((720 * (x3 + 1)) + x7)).toNat) = 100000000 → (x6 ≤ 100000000 → ((inR (x7 + 1)) ∧ (GO none mX11_layPlans 112 [some (.inr 73), some (.inl x1), none, some (.inl x3), some (.inl x4), some (.inl x5), some (.inl x6), some (.inl (x7 + 1)), none] [] σ Q))) ∧ (100000000 < x6 → ((inR (x7 + 1)) ∧ (GO none mX11_layPlans 112 [some (.inr 73), some (.inl x1), none, some (.inl x3), some (.inl x4), some (.inl x5), some (.inl 100000000), some (.inl (x7 + 1)), none] [] σ Q)))))))))))))))))))) : GO none mX11_layPlans 112 [some (.inr 73), some (.inl x1), none, some (.inl x3), some (.inl x4), some (.inl x5), some (.inl x6), some (.inl x7), none] [] σ Q := by
  refine g_iload dX11_layPlans_112 rfl ?_
  refine g_aload_n dX11_layPlans_114 rfl rfl ?_
  refine g_getI flX11_187 (by decide) rfl (by decide) rfl dX11_layPlans_115 ?_
  refine g_icmp_ge (tgt := 208) dX11_layPlans_118 (by decide) (fun c1 => ?_) (fun c1 => ?_)
  · have h := h.1 c1
    refine g_aload_n dX11_layPlans_208 rfl rfl ?_
    refine g_getR (r' := 93) flX11_72 (by decide) rfl (by decide) rfl dX11_layPlans_209 ?_
    refine g_sipush dX11_layPlans_212 (by decide) (by decide) ?_
    refine g_iload_n dX11_layPlans_215 rfl rfl ?_
    obtain ⟨p2, h⟩ := h
    refine g_imul dX11_layPlans_216 p2 ?_
    refine g_iload dX11_layPlans_217 rfl ?_
    obtain ⟨p3, h⟩ := h
    refine g_iadd dX11_layPlans_219 p3 ?_
    refine g_iload dX11_layPlans_220 rfl ?_
    refine g_ldc (n := 100000000) dX11_layPlans_222 kcX11_138 (by decide) (by decide) ?_
    refine g_icmp_eq (tgt := 234) dX11_layPlans_224 (by decide) (fun c4 => ?_) (fun c4 => ?_)
    · have h := h.1 c4
      refine g_ldc (n := 100000000) dX11_layPlans_234 kcX11_138 (by decide) (by decide) ?_
      refine g_goto (tgt := 244) dX11_layPlans_236 (by decide) ?_
      obtain ⟨p5, h⟩ := h
      obtain ⟨p6, h⟩ := h
      refine g_iast (by decide) rfl p5 p6 dX11_layPlans_244 ?_
      obtain ⟨p7, h⟩ := h
      refine g_iinc (ls' := [some (.inr 73), some (.inl x1), none, some (.inl x3), some (.inl (x4 + 1)), some (.inl x5), some (.inl x6), some (.inl x7), none]) dX11_layPlans_245 (by decide) rfl p7 rfl ?_
      refine g_goto (tgt := 66) dX11_layPlans_248 (by decide) ?_
      refine g_kill (i := 5) (ls' := [some (.inr 73), some (.inl x1), none, some (.inl x3), some (.inl (x4 + 1)), none, some (.inl x6), some (.inl x7), none]) rfl ?_
      refine g_kill (i := 6) (ls' := [some (.inr 73), some (.inl x1), none, some (.inl x3), some (.inl (x4 + 1)), none, none, some (.inl x7), none]) rfl ?_
      refine g_kill (i := 7) (ls' := [some (.inr 73), some (.inl x1), none, some (.inl x3), some (.inl (x4 + 1)), none, none, none, none]) rfl ?_
      exact h
    · have h := h.2 c4
      refine g_iload dX11_layPlans_227 rfl ?_
      refine g_ldc (n := 100000000) dX11_layPlans_229 kcX11_138 (by decide) (by decide) ?_
      refine g_icmp_ne (tgt := 239) dX11_layPlans_231 (by decide) (fun c8 => ?_) (fun c8 => ?_)
      · have h := h.1 c8
        refine g_iload dX11_layPlans_239 rfl ?_
        refine g_iload dX11_layPlans_241 rfl ?_
        obtain ⟨p9, h⟩ := h
        refine g_iadd dX11_layPlans_243 p9 ?_
        obtain ⟨p10, h⟩ := h
        obtain ⟨p11, h⟩ := h
        refine g_iast (by decide) rfl p10 p11 dX11_layPlans_244 ?_
        obtain ⟨p12, h⟩ := h
        refine g_iinc (ls' := [some (.inr 73), some (.inl x1), none, some (.inl x3), some (.inl (x4 + 1)), some (.inl x5), some (.inl x6), some (.inl x7), none]) dX11_layPlans_245 (by decide) rfl p12 rfl ?_
        refine g_goto (tgt := 66) dX11_layPlans_248 (by decide) ?_
        refine g_kill (i := 5) (ls' := [some (.inr 73), some (.inl x1), none, some (.inl x3), some (.inl (x4 + 1)), none, some (.inl x6), some (.inl x7), none]) rfl ?_
        refine g_kill (i := 6) (ls' := [some (.inr 73), some (.inl x1), none, some (.inl x3), some (.inl (x4 + 1)), none, none, some (.inl x7), none]) rfl ?_
        refine g_kill (i := 7) (ls' := [some (.inr 73), some (.inl x1), none, some (.inl x3), some (.inl (x4 + 1)), none, none, none, none]) rfl ?_
        exact h
      · have h := h.2 c8
        refine g_ldc (n := 100000000) dX11_layPlans_234 kcX11_138 (by decide) (by decide) ?_
        refine g_goto (tgt := 244) dX11_layPlans_236 (by decide) ?_
        obtain ⟨p13, h⟩ := h
        obtain ⟨p14, h⟩ := h
        refine g_iast (by decide) rfl p13 p14 dX11_layPlans_244 ?_
        obtain ⟨p15, h⟩ := h
        refine g_iinc (ls' := [some (.inr 73), some (.inl x1), none, some (.inl x3), some (.inl (x4 + 1)), some (.inl x5), some (.inl x6), some (.inl x7), none]) dX11_layPlans_245 (by decide) rfl p15 rfl ?_
        refine g_goto (tgt := 66) dX11_layPlans_248 (by decide) ?_
        refine g_kill (i := 5) (ls' := [some (.inr 73), some (.inl x1), none, some (.inl x3), some (.inl (x4 + 1)), none, some (.inl x6), some (.inl x7), none]) rfl ?_
        refine g_kill (i := 6) (ls' := [some (.inr 73), some (.inl x1), none, some (.inl x3), some (.inl (x4 + 1)), none, none, some (.inl x7), none]) rfl ?_
        refine g_kill (i := 7) (ls' := [some (.inr 73), some (.inl x1), none, some (.inl x3), some (.inl (x4 + 1)), none, none, none, none]) rfl ?_
        exact h
  · have h := h.2 c1
    refine g_iload_n dX11_layPlans_121 rfl rfl ?_
    refine g_iload_n dX11_layPlans_122 rfl rfl ?_
    refine g_iconst dX11_layPlans_123 (by decide) ?_
    obtain ⟨p16, h⟩ := h
    refine g_isub dX11_layPlans_124 p16 ?_
    refine g_icmp_ge (tgt := 208) dX11_layPlans_125 (by decide) (fun c17 => ?_) (fun c17 => ?_)
    · have h := h.1 c17
      refine g_aload_n dX11_layPlans_208 rfl rfl ?_
      refine g_getR (r' := 93) flX11_72 (by decide) rfl (by decide) rfl dX11_layPlans_209 ?_
      refine g_sipush dX11_layPlans_212 (by decide) (by decide) ?_
      refine g_iload_n dX11_layPlans_215 rfl rfl ?_
      obtain ⟨p18, h⟩ := h
      refine g_imul dX11_layPlans_216 p18 ?_
      refine g_iload dX11_layPlans_217 rfl ?_
      obtain ⟨p19, h⟩ := h
      refine g_iadd dX11_layPlans_219 p19 ?_
      refine g_iload dX11_layPlans_220 rfl ?_
      refine g_ldc (n := 100000000) dX11_layPlans_222 kcX11_138 (by decide) (by decide) ?_
      refine g_icmp_eq (tgt := 234) dX11_layPlans_224 (by decide) (fun c20 => ?_) (fun c20 => ?_)
      · have h := h.1 c20
        refine g_ldc (n := 100000000) dX11_layPlans_234 kcX11_138 (by decide) (by decide) ?_
        refine g_goto (tgt := 244) dX11_layPlans_236 (by decide) ?_
        obtain ⟨p21, h⟩ := h
        obtain ⟨p22, h⟩ := h
        refine g_iast (by decide) rfl p21 p22 dX11_layPlans_244 ?_
        obtain ⟨p23, h⟩ := h
        refine g_iinc (ls' := [some (.inr 73), some (.inl x1), none, some (.inl x3), some (.inl (x4 + 1)), some (.inl x5), some (.inl x6), some (.inl x7), none]) dX11_layPlans_245 (by decide) rfl p23 rfl ?_
        refine g_goto (tgt := 66) dX11_layPlans_248 (by decide) ?_
        refine g_kill (i := 5) (ls' := [some (.inr 73), some (.inl x1), none, some (.inl x3), some (.inl (x4 + 1)), none, some (.inl x6), some (.inl x7), none]) rfl ?_
        refine g_kill (i := 6) (ls' := [some (.inr 73), some (.inl x1), none, some (.inl x3), some (.inl (x4 + 1)), none, none, some (.inl x7), none]) rfl ?_
        refine g_kill (i := 7) (ls' := [some (.inr 73), some (.inl x1), none, some (.inl x3), some (.inl (x4 + 1)), none, none, none, none]) rfl ?_
        exact h
      · have h := h.2 c20
        refine g_iload dX11_layPlans_227 rfl ?_
        refine g_ldc (n := 100000000) dX11_layPlans_229 kcX11_138 (by decide) (by decide) ?_
        refine g_icmp_ne (tgt := 239) dX11_layPlans_231 (by decide) (fun c24 => ?_) (fun c24 => ?_)
        · have h := h.1 c24
          refine g_iload dX11_layPlans_239 rfl ?_
          refine g_iload dX11_layPlans_241 rfl ?_
          obtain ⟨p25, h⟩ := h
          refine g_iadd dX11_layPlans_243 p25 ?_
          obtain ⟨p26, h⟩ := h
          obtain ⟨p27, h⟩ := h
          refine g_iast (by decide) rfl p26 p27 dX11_layPlans_244 ?_
          obtain ⟨p28, h⟩ := h
          refine g_iinc (ls' := [some (.inr 73), some (.inl x1), none, some (.inl x3), some (.inl (x4 + 1)), some (.inl x5), some (.inl x6), some (.inl x7), none]) dX11_layPlans_245 (by decide) rfl p28 rfl ?_
          refine g_goto (tgt := 66) dX11_layPlans_248 (by decide) ?_
          refine g_kill (i := 5) (ls' := [some (.inr 73), some (.inl x1), none, some (.inl x3), some (.inl (x4 + 1)), none, some (.inl x6), some (.inl x7), none]) rfl ?_
          refine g_kill (i := 6) (ls' := [some (.inr 73), some (.inl x1), none, some (.inl x3), some (.inl (x4 + 1)), none, none, some (.inl x7), none]) rfl ?_
          refine g_kill (i := 7) (ls' := [some (.inr 73), some (.inl x1), none, some (.inl x3), some (.inl (x4 + 1)), none, none, none, none]) rfl ?_
          exact h
        · have h := h.2 c24
          refine g_ldc (n := 100000000) dX11_layPlans_234 kcX11_138 (by decide) (by decide) ?_
          refine g_goto (tgt := 244) dX11_layPlans_236 (by decide) ?_
          obtain ⟨p29, h⟩ := h
          obtain ⟨p30, h⟩ := h
          refine g_iast (by decide) rfl p29 p30 dX11_layPlans_244 ?_
          obtain ⟨p31, h⟩ := h
          refine g_iinc (ls' := [some (.inr 73), some (.inl x1), none, some (.inl x3), some (.inl (x4 + 1)), some (.inl x5), some (.inl x6), some (.inl x7), none]) dX11_layPlans_245 (by decide) rfl p31 rfl ?_
          refine g_goto (tgt := 66) dX11_layPlans_248 (by decide) ?_
          refine g_kill (i := 5) (ls' := [some (.inr 73), some (.inl x1), none, some (.inl x3), some (.inl (x4 + 1)), none, some (.inl x6), some (.inl x7), none]) rfl ?_
          refine g_kill (i := 6) (ls' := [some (.inr 73), some (.inl x1), none, some (.inl x3), some (.inl (x4 + 1)), none, none, some (.inl x7), none]) rfl ?_
          refine g_kill (i := 7) (ls' := [some (.inr 73), some (.inl x1), none, some (.inl x3), some (.inl (x4 + 1)), none, none, none, none]) rfl ?_
          exact h
    · have h := h.2 c17
      refine g_iload dX11_layPlans_128 rfl ?_
      refine g_ldc (n := 100000000) dX11_layPlans_130 kcX11_138 (by decide) (by decide) ?_
      refine g_icmp_ge (tgt := 208) dX11_layPlans_132 (by decide) (fun c32 => ?_) (fun c32 => ?_)
      · have h := h.1 c32
        refine g_aload_n dX11_layPlans_208 rfl rfl ?_
        refine g_getR (r' := 93) flX11_72 (by decide) rfl (by decide) rfl dX11_layPlans_209 ?_
        refine g_sipush dX11_layPlans_212 (by decide) (by decide) ?_
        refine g_iload_n dX11_layPlans_215 rfl rfl ?_
        obtain ⟨p33, h⟩ := h
        refine g_imul dX11_layPlans_216 p33 ?_
        refine g_iload dX11_layPlans_217 rfl ?_
        obtain ⟨p34, h⟩ := h
        refine g_iadd dX11_layPlans_219 p34 ?_
        refine g_iload dX11_layPlans_220 rfl ?_
        refine g_ldc (n := 100000000) dX11_layPlans_222 kcX11_138 (by decide) (by decide) ?_
        refine g_icmp_eq (tgt := 234) dX11_layPlans_224 (by decide) (fun c35 => ?_) (fun c35 => ?_)
        · have h := h.1 c35
          refine g_ldc (n := 100000000) dX11_layPlans_234 kcX11_138 (by decide) (by decide) ?_
          refine g_goto (tgt := 244) dX11_layPlans_236 (by decide) ?_
          obtain ⟨p36, h⟩ := h
          obtain ⟨p37, h⟩ := h
          refine g_iast (by decide) rfl p36 p37 dX11_layPlans_244 ?_
          obtain ⟨p38, h⟩ := h
          refine g_iinc (ls' := [some (.inr 73), some (.inl x1), none, some (.inl x3), some (.inl (x4 + 1)), some (.inl x5), some (.inl x6), some (.inl x7), none]) dX11_layPlans_245 (by decide) rfl p38 rfl ?_
          refine g_goto (tgt := 66) dX11_layPlans_248 (by decide) ?_
          refine g_kill (i := 5) (ls' := [some (.inr 73), some (.inl x1), none, some (.inl x3), some (.inl (x4 + 1)), none, some (.inl x6), some (.inl x7), none]) rfl ?_
          refine g_kill (i := 6) (ls' := [some (.inr 73), some (.inl x1), none, some (.inl x3), some (.inl (x4 + 1)), none, none, some (.inl x7), none]) rfl ?_
          refine g_kill (i := 7) (ls' := [some (.inr 73), some (.inl x1), none, some (.inl x3), some (.inl (x4 + 1)), none, none, none, none]) rfl ?_
          exact h
        · have h := h.2 c35
          refine g_iload dX11_layPlans_227 rfl ?_
          refine g_ldc (n := 100000000) dX11_layPlans_229 kcX11_138 (by decide) (by decide) ?_
          refine g_icmp_ne (tgt := 239) dX11_layPlans_231 (by decide) (fun c39 => ?_) (fun c39 => ?_)
          · have h := h.1 c39
            refine g_iload dX11_layPlans_239 rfl ?_
            refine g_iload dX11_layPlans_241 rfl ?_
            obtain ⟨p40, h⟩ := h
            refine g_iadd dX11_layPlans_243 p40 ?_
            obtain ⟨p41, h⟩ := h
            obtain ⟨p42, h⟩ := h
            refine g_iast (by decide) rfl p41 p42 dX11_layPlans_244 ?_
            obtain ⟨p43, h⟩ := h
            refine g_iinc (ls' := [some (.inr 73), some (.inl x1), none, some (.inl x3), some (.inl (x4 + 1)), some (.inl x5), some (.inl x6), some (.inl x7), none]) dX11_layPlans_245 (by decide) rfl p43 rfl ?_
            refine g_goto (tgt := 66) dX11_layPlans_248 (by decide) ?_
            refine g_kill (i := 5) (ls' := [some (.inr 73), some (.inl x1), none, some (.inl x3), some (.inl (x4 + 1)), none, some (.inl x6), some (.inl x7), none]) rfl ?_
            refine g_kill (i := 6) (ls' := [some (.inr 73), some (.inl x1), none, some (.inl x3), some (.inl (x4 + 1)), none, none, some (.inl x7), none]) rfl ?_
            refine g_kill (i := 7) (ls' := [some (.inr 73), some (.inl x1), none, some (.inl x3), some (.inl (x4 + 1)), none, none, none, none]) rfl ?_
            exact h
          · have h := h.2 c39
            refine g_ldc (n := 100000000) dX11_layPlans_234 kcX11_138 (by decide) (by decide) ?_
            refine g_goto (tgt := 244) dX11_layPlans_236 (by decide) ?_
            obtain ⟨p44, h⟩ := h
            obtain ⟨p45, h⟩ := h
            refine g_iast (by decide) rfl p44 p45 dX11_layPlans_244 ?_
            obtain ⟨p46, h⟩ := h
            refine g_iinc (ls' := [some (.inr 73), some (.inl x1), none, some (.inl x3), some (.inl (x4 + 1)), some (.inl x5), some (.inl x6), some (.inl x7), none]) dX11_layPlans_245 (by decide) rfl p46 rfl ?_
            refine g_goto (tgt := 66) dX11_layPlans_248 (by decide) ?_
            refine g_kill (i := 5) (ls' := [some (.inr 73), some (.inl x1), none, some (.inl x3), some (.inl (x4 + 1)), none, some (.inl x6), some (.inl x7), none]) rfl ?_
            refine g_kill (i := 6) (ls' := [some (.inr 73), some (.inl x1), none, some (.inl x3), some (.inl (x4 + 1)), none, none, some (.inl x7), none]) rfl ?_
            refine g_kill (i := 7) (ls' := [some (.inr 73), some (.inl x1), none, some (.inl x3), some (.inl (x4 + 1)), none, none, none, none]) rfl ?_
            exact h
      · have h := h.2 c32
        refine g_aload_n dX11_layPlans_135 rfl rfl ?_
        refine g_getR (r' := 93) flX11_72 (by decide) rfl (by decide) rfl dX11_layPlans_136 ?_
        refine g_sipush dX11_layPlans_139 (by decide) (by decide) ?_
        refine g_iload_n dX11_layPlans_142 rfl rfl ?_
        refine g_iconst dX11_layPlans_143 (by decide) ?_
        obtain ⟨p47, h⟩ := h
        refine g_iadd dX11_layPlans_144 p47 ?_
        obtain ⟨p48, h⟩ := h
        refine g_imul dX11_layPlans_145 p48 ?_
        refine g_iload dX11_layPlans_146 rfl ?_
        obtain ⟨p49, h⟩ := h
        refine g_iadd dX11_layPlans_148 p49 ?_
        obtain ⟨p50, h⟩ := h
        obtain ⟨p51, h⟩ := h
        refine g_iald (by decide) rfl p50 p51 dX11_layPlans_149 ?_
        refine g_ldc (n := 100000000) dX11_layPlans_150 kcX11_138 (by decide) (by decide) ?_
        refine g_icmp_ne (tgt := 160) dX11_layPlans_152 (by decide) (fun c52 => ?_) (fun c52 => ?_)
        · have h := h.1 c52
          refine g_aload_n dX11_layPlans_160 rfl rfl ?_
          refine g_getR (r' := 93) flX11_72 (by decide) rfl (by decide) rfl dX11_layPlans_161 ?_
          refine g_sipush dX11_layPlans_164 (by decide) (by decide) ?_
          refine g_iload_n dX11_layPlans_167 rfl rfl ?_
          refine g_iconst dX11_layPlans_168 (by decide) ?_
          refine g_iadd dX11_layPlans_169 p47 ?_
          refine g_imul dX11_layPlans_170 p48 ?_
          refine g_iload dX11_layPlans_171 rfl ?_
          refine g_iadd dX11_layPlans_173 p49 ?_
          refine g_iald (by decide) rfl p50 p51 dX11_layPlans_174 ?_
          refine g_aload_n dX11_layPlans_175 rfl rfl ?_
          refine g_iload dX11_layPlans_176 rfl ?_
          refine g_iload dX11_layPlans_178 rfl ?_
          refine g_invVI (as := [.inl x4, .inl x7]) (rest := [.inl (σ 93 (((720 * (x3 + 1)) + x7)).toNat)]) okX11_changed mlX11_190 (by decide) rfl ⟨_, _, rfl⟩ rfl ⟨Nat.le_of_ble_eq_true rfl, Nat.le_of_ble_eq_true rfl⟩ (Nat.le_of_ble_eq_true rfl) rfl dX11_layPlans_180 h (Or.inl rfl) (fun v53 σ54 e55 => ?_)
          have h := e55
          obtain ⟨p56, h⟩ := h
          refine g_iadd dX11_layPlans_183 p56 ?_
          refine g_istore (ls' := [some (.inr 73), some (.inl x1), none, some (.inl x3), some (.inl x4), some (.inl x5), some (.inl x6), some (.inl x7), some (.inl ((σ 93 (((720 * (x3 + 1)) + x7)).toNat) + v53))]) dX11_layPlans_184 (by decide) rfl ?_
          refine g_iload dX11_layPlans_186 rfl ?_
          refine g_iload dX11_layPlans_188 rfl ?_
          refine g_icmp_ge (tgt := 198) dX11_layPlans_190 (by decide) (fun c57 => ?_) (fun c57 => ?_)
          · have h := h.1 c57
            refine g_iload dX11_layPlans_198 rfl ?_
            refine g_istore (ls' := [some (.inr 73), some (.inl x1), none, some (.inl x3), some (.inl x4), some (.inl x5), some (.inl x6), some (.inl x7), some (.inl ((σ 93 (((720 * (x3 + 1)) + x7)).toNat) + v53))]) dX11_layPlans_200 (by decide) rfl ?_
            obtain ⟨p58, h⟩ := h
            refine g_iinc (ls' := [some (.inr 73), some (.inl x1), none, some (.inl x3), some (.inl x4), some (.inl x5), some (.inl x6), some (.inl (x7 + 1)), some (.inl ((σ 93 (((720 * (x3 + 1)) + x7)).toNat) + v53))]) dX11_layPlans_202 (by decide) rfl p58 rfl ?_
            refine g_goto (tgt := 112) dX11_layPlans_205 (by decide) ?_
            refine g_kill (i := 8) (ls' := [some (.inr 73), some (.inl x1), none, some (.inl x3), some (.inl x4), some (.inl x5), some (.inl x6), some (.inl (x7 + 1)), none]) rfl ?_
            exact h
          · have h := h.2 c57
            refine g_iload dX11_layPlans_193 rfl ?_
            refine g_goto (tgt := 200) dX11_layPlans_195 (by decide) ?_
            refine g_istore (ls' := [some (.inr 73), some (.inl x1), none, some (.inl x3), some (.inl x4), some (.inl x5), some (.inl ((σ 93 (((720 * (x3 + 1)) + x7)).toNat) + v53)), some (.inl x7), some (.inl ((σ 93 (((720 * (x3 + 1)) + x7)).toNat) + v53))]) dX11_layPlans_200 (by decide) rfl ?_
            obtain ⟨p59, h⟩ := h
            refine g_iinc (ls' := [some (.inr 73), some (.inl x1), none, some (.inl x3), some (.inl x4), some (.inl x5), some (.inl ((σ 93 (((720 * (x3 + 1)) + x7)).toNat) + v53)), some (.inl (x7 + 1)), some (.inl ((σ 93 (((720 * (x3 + 1)) + x7)).toNat) + v53))]) dX11_layPlans_202 (by decide) rfl p59 rfl ?_
            refine g_goto (tgt := 112) dX11_layPlans_205 (by decide) ?_
            refine g_kill (i := 8) (ls' := [some (.inr 73), some (.inl x1), none, some (.inl x3), some (.inl x4), some (.inl x5), some (.inl ((σ 93 (((720 * (x3 + 1)) + x7)).toNat) + v53)), some (.inl (x7 + 1)), none]) rfl ?_
            exact h
        · have h := h.2 c52
          refine g_ldc (n := 100000000) dX11_layPlans_155 kcX11_138 (by decide) (by decide) ?_
          refine g_goto (tgt := 184) dX11_layPlans_157 (by decide) ?_
          refine g_istore (ls' := [some (.inr 73), some (.inl x1), none, some (.inl x3), some (.inl x4), some (.inl x5), some (.inl x6), some (.inl x7), some (.inl 100000000)]) dX11_layPlans_184 (by decide) rfl ?_
          refine g_iload dX11_layPlans_186 rfl ?_
          refine g_iload dX11_layPlans_188 rfl ?_
          refine g_icmp_ge (tgt := 198) dX11_layPlans_190 (by decide) (fun c60 => ?_) (fun c60 => ?_)
          · have h := h.1 c60
            refine g_iload dX11_layPlans_198 rfl ?_
            refine g_istore (ls' := [some (.inr 73), some (.inl x1), none, some (.inl x3), some (.inl x4), some (.inl x5), some (.inl x6), some (.inl x7), some (.inl 100000000)]) dX11_layPlans_200 (by decide) rfl ?_
            obtain ⟨p61, h⟩ := h
            refine g_iinc (ls' := [some (.inr 73), some (.inl x1), none, some (.inl x3), some (.inl x4), some (.inl x5), some (.inl x6), some (.inl (x7 + 1)), some (.inl 100000000)]) dX11_layPlans_202 (by decide) rfl p61 rfl ?_
            refine g_goto (tgt := 112) dX11_layPlans_205 (by decide) ?_
            refine g_kill (i := 8) (ls' := [some (.inr 73), some (.inl x1), none, some (.inl x3), some (.inl x4), some (.inl x5), some (.inl x6), some (.inl (x7 + 1)), none]) rfl ?_
            exact h
          · have h := h.2 c60
            refine g_iload dX11_layPlans_193 rfl ?_
            refine g_goto (tgt := 200) dX11_layPlans_195 (by decide) ?_
            refine g_istore (ls' := [some (.inr 73), some (.inl x1), none, some (.inl x3), some (.inl x4), some (.inl x5), some (.inl 100000000), some (.inl x7), some (.inl 100000000)]) dX11_layPlans_200 (by decide) rfl ?_
            obtain ⟨p62, h⟩ := h
            refine g_iinc (ls' := [some (.inr 73), some (.inl x1), none, some (.inl x3), some (.inl x4), some (.inl x5), some (.inl 100000000), some (.inl (x7 + 1)), some (.inl 100000000)]) dX11_layPlans_202 (by decide) rfl p62 rfl ?_
            refine g_goto (tgt := 112) dX11_layPlans_205 (by decide) ?_
            refine g_kill (i := 8) (ls' := [some (.inr 73), some (.inl x1), none, some (.inl x3), some (.inl x4), some (.inl x5), some (.inl 100000000), some (.inl (x7 + 1)), none]) rfl ?_
            exact h
set_option maxRecDepth 100000 in
theorem rX11_plan_0 {x1 : Int}  {σ : Mem} {Q : Int → Mem → Prop} (h : CM mX11_isSpan [.inl x1] σ (fun v1 σ2 => (v1 ≠ 0 → CM mX11_layPlans [.inr 73, .inl x1] σ2 (fun _ σ6 => CM mX11_firstOf [.inr 73, .inl 0, .inl (-1)] σ6 (fun v8 σ9 => (v8 ≠ (-1) → ((0 ≤ v8) ∧ (((v8 < 2880) ∧ (Q (σ9 93 (v8).toNat) σ9))))) ∧ (v8 = (-1) → Q (-1) σ9)))) ∧ (v1 = 0 → Q (-2) σ2))) : CM mX11_plan [.inr 73, .inl x1] σ Q := by
  refine CM_of_GO (by decide +kernel) rfl (Nat.le_of_ble_eq_true rfl) ?_
  show GO none mX11_plan 0 [some (.inr 73), some (.inl x1), none] [] σ Q
  refine g_iload_n dX11_plan_0 rfl rfl ?_
  refine g_invSI (as := [.inl x1]) (rest := []) okX11_isSpan rfl mlX11_193 rfl ⟨Nat.le_of_ble_eq_true rfl, Nat.le_of_ble_eq_true rfl⟩ (Nat.le_of_ble_eq_true rfl) rfl dX11_plan_1 h (Or.inr rfl) (fun v1 σ2 e3 => ?_)
  have h := e3
  refine g_if_ne (tgt := 10) dX11_plan_4 (by decide) (fun c4 => ?_) (fun c4 => ?_)
  · have h := h.1 c4
    refine g_aload_n dX11_plan_10 rfl rfl ?_
    refine g_iload_n dX11_plan_11 rfl rfl ?_
    refine g_invVV (as := [.inl x1]) (rest := []) okX11_layPlans mlX11_196 (by decide) rfl ⟨_, _, rfl⟩ rfl ⟨Nat.le_of_ble_eq_true rfl, Nat.le_of_ble_eq_true rfl⟩ (Nat.le_of_ble_eq_true rfl) rfl dX11_plan_12 h rfl (fun σ6 e7 => ?_)
    have h := e7
    refine g_aload_n dX11_plan_15 rfl rfl ?_
    refine g_iconst dX11_plan_16 (by decide) ?_
    refine g_iconst dX11_plan_17 (by decide) ?_
    refine g_invVI (as := [.inl 0, .inl (-1)]) (rest := []) okX11_firstOf mlX11_199 (by decide) rfl ⟨_, _, rfl⟩ rfl ⟨Nat.le_of_ble_eq_true rfl, Nat.le_of_ble_eq_true rfl⟩ (Nat.le_of_ble_eq_true rfl) rfl dX11_plan_18 h (Or.inl rfl) (fun v8 σ9 e10 => ?_)
    have h := e10
    refine g_istore_n (ls' := [some (.inr 73), some (.inl x1), some (.inl v8)]) dX11_plan_21 rfl (by decide) rfl ?_
    refine g_iload_n dX11_plan_22 rfl rfl ?_
    refine g_iconst dX11_plan_23 (by decide) ?_
    refine g_icmp_ne (tgt := 31) dX11_plan_24 (by decide) (fun c11 => ?_) (fun c11 => ?_)
    · have h := h.1 c11
      refine g_aload_n dX11_plan_31 rfl rfl ?_
      refine g_getR (r' := 93) flX11_72 (by decide) rfl (by decide) rfl dX11_plan_32 ?_
      refine g_iload_n dX11_plan_35 rfl rfl ?_
      obtain ⟨p12, h⟩ := h
      obtain ⟨p13, h⟩ := h
      refine g_iald (by decide) rfl p12 p13 dX11_plan_36 ?_
      exact g_ireturn rfl dX11_plan_37 h
    · have h := h.2 c11
      refine g_iconst dX11_plan_27 (by decide) ?_
      refine g_goto (tgt := 37) dX11_plan_28 (by decide) ?_
      exact g_ireturn rfl dX11_plan_37 h
  · have h := h.2 c4
    refine g_bipush dX11_plan_7 (by decide) (by decide) ?_
    exact g_ireturn rfl dX11_plan_9 h
set_option maxRecDepth 100000 in
theorem rX11_planned_0 {x1 x2 : Int}  {σ : Mem} {Q : Int → Mem → Prop} (h : CM mX11_isSpan [.inl x1] σ (fun v1 σ2 => (v1 = 0 → Q (-2) σ2) ∧ (v1 ≠ 0 → ((inR (x1 - 1)) ∧ ((0 ≤ x2 ∧ x2 ≤ (x1 - 1) → CM mX11_layPlans [.inr 73, .inl x1] σ2 (fun _ σ11 => CM mX11_firstOf [.inr 73, .inl 0, .inl (-1)] σ11 (fun v13 σ14 => GO none mX11_planned 36 [some (.inr 73), some (.inl x1), some (.inl x2), some (.inl v13), some (.inl 1)] [] σ14 Q))) ∧ (¬ (0 ≤ x2 ∧ x2 ≤ (x1 - 1)) → Q (-2) σ2)))))) : CM mX11_planned [.inr 73, .inl x1, .inl x2] σ Q := by
  refine CM_of_GO (by decide +kernel) rfl (Nat.le_of_ble_eq_true rfl) ?_
  show GO none mX11_planned 0 [some (.inr 73), some (.inl x1), some (.inl x2), none, none] [] σ Q
  refine g_iload_n dX11_planned_0 rfl rfl ?_
  refine g_invSI (as := [.inl x1]) (rest := []) okX11_isSpan rfl mlX11_193 rfl ⟨Nat.le_of_ble_eq_true rfl, Nat.le_of_ble_eq_true rfl⟩ (Nat.le_of_ble_eq_true rfl) rfl dX11_planned_1 h (Or.inr rfl) (fun v1 σ2 e3 => ?_)
  have h := e3
  refine g_if_eq (tgt := 18) dX11_planned_4 (by decide) (fun c4 => ?_) (fun c4 => ?_)
  · have h := h.1 c4
    refine g_bipush dX11_planned_18 (by decide) (by decide) ?_
    exact g_ireturn rfl dX11_planned_20 h
  · have h := h.2 c4
    refine g_iload_n dX11_planned_7 rfl rfl ?_
    refine g_iconst dX11_planned_8 (by decide) ?_
    refine g_iload_n dX11_planned_9 rfl rfl ?_
    refine g_iconst dX11_planned_10 (by decide) ?_
    obtain ⟨p5, h⟩ := h
    refine g_isub dX11_planned_11 p5 ?_
    refine g_invSI (as := [.inl x2, .inl 0, .inl (x1 - 1)]) (rest := []) okX11_in rfl mlX11_78 rfl ⟨Nat.le_of_ble_eq_true rfl, Nat.le_of_ble_eq_true rfl⟩ (Nat.le_of_ble_eq_true rfl) rfl dX11_planned_12 (c_X11_in) (Or.inr rfl) (fun v6 σ7 e8 => ?_)
    obtain ⟨e8a, e8b⟩ := e8; subst v6; subst σ7
    refine g_if_ne (tgt := 21) dX11_planned_15 (by decide) (fun c9 => ?_) (fun c9 => ?_)
    · have h := h.1 (ite_yes c9)
      refine g_aload_n dX11_planned_21 rfl rfl ?_
      refine g_iload_n dX11_planned_22 rfl rfl ?_
      refine g_invVV (as := [.inl x1]) (rest := []) okX11_layPlans mlX11_196 (by decide) rfl ⟨_, _, rfl⟩ rfl ⟨Nat.le_of_ble_eq_true rfl, Nat.le_of_ble_eq_true rfl⟩ (Nat.le_of_ble_eq_true rfl) rfl dX11_planned_23 h rfl (fun σ11 e12 => ?_)
      have h := e12
      refine g_aload_n dX11_planned_26 rfl rfl ?_
      refine g_iconst dX11_planned_27 (by decide) ?_
      refine g_iconst dX11_planned_28 (by decide) ?_
      refine g_invVI (as := [.inl 0, .inl (-1)]) (rest := []) okX11_firstOf mlX11_199 (by decide) rfl ⟨_, _, rfl⟩ rfl ⟨Nat.le_of_ble_eq_true rfl, Nat.le_of_ble_eq_true rfl⟩ (Nat.le_of_ble_eq_true rfl) rfl dX11_planned_29 h (Or.inl rfl) (fun v13 σ14 e15 => ?_)
      have h := e15
      refine g_istore_n (ls' := [some (.inr 73), some (.inl x1), some (.inl x2), some (.inl v13), none]) dX11_planned_32 rfl (by decide) rfl ?_
      refine g_iconst dX11_planned_33 (by decide) ?_
      refine g_istore (ls' := [some (.inr 73), some (.inl x1), some (.inl x2), some (.inl v13), some (.inl 1)]) dX11_planned_34 (by decide) rfl ?_
      exact h
    · have h := h.2 (ite_no c9)
      refine g_bipush dX11_planned_18 (by decide) (by decide) ?_
      exact g_ireturn rfl dX11_planned_20 h
set_option maxRecDepth 100000 in
theorem rX11_planned_36 {x1 x2 x3 x4 : Int}  {σ : Mem} {Q : Int → Mem → Prop} (h : (x2 < x4 → (x3 ≠ (-1) → ((0 ≤ x3) ∧ (((x3 < 720) ∧ (CM mX11_layRow [.inr 73, .inl (σ 92 (x3).toNat)] σ (fun v5 σ6 => CM mX11_toldOf [.inr 73] σ6 (fun v8 σ9 => Q v8 σ9))))))) ∧ (x3 = (-1) → Q (-1) σ)) ∧ (x4 ≤ x2 → (x3 = (-1) → (x3 ≠ (-1) → ((0 ≤ x3) ∧ (((x3 < 720) ∧ (CM mX11_layRow [.inr 73, .inl (σ 92 (x3).toNat)] σ (fun v15 σ16 => CM mX11_toldOf [.inr 73] σ16 (fun v18 σ19 => Q v18 σ19))))))) ∧ (x3 = (-1) → Q (-1) σ)) ∧ (x3 ≠ (-1) → CM mX11_firstOf [.inr 73, .inl x4, .inl x3] σ (fun v21 σ22 => ((inR (x4 + 1)) ∧ (GO none mX11_planned 36 [some (.inr 73), some (.inl x1), some (.inl x2), some (.inl v21), some (.inl (x4 + 1))] [] σ22 Q)))))) : GO none mX11_planned 36 [some (.inr 73), some (.inl x1), some (.inl x2), some (.inl x3), some (.inl x4)] [] σ Q := by
  refine g_iload dX11_planned_36 rfl ?_
  refine g_iload_n dX11_planned_38 rfl rfl ?_
  refine g_icmp_gt (tgt := 61) dX11_planned_39 (by decide) (fun c1 => ?_) (fun c1 => ?_)
  · have h := h.1 c1
    refine g_iload_n dX11_planned_61 rfl rfl ?_
    refine g_iconst dX11_planned_62 (by decide) ?_
    refine g_icmp_ne (tgt := 68) dX11_planned_63 (by decide) (fun c2 => ?_) (fun c2 => ?_)
    · have h := h.1 c2
      refine g_aload_n dX11_planned_68 rfl rfl ?_
      refine g_aload_n dX11_planned_69 rfl rfl ?_
      refine g_getR (r' := 92) flX11_69 (by decide) rfl (by decide) rfl dX11_planned_70 ?_
      refine g_iload_n dX11_planned_73 rfl rfl ?_
      obtain ⟨p3, h⟩ := h
      obtain ⟨p4, h⟩ := h
      refine g_iald (by decide) rfl p3 p4 dX11_planned_74 ?_
      refine g_invVI (as := [.inl (σ 92 (x3).toNat)]) (rest := []) okX11_layRow mlX11_149 (by decide) rfl ⟨_, _, rfl⟩ rfl ⟨Nat.le_of_ble_eq_true rfl, Nat.le_of_ble_eq_true rfl⟩ (Nat.le_of_ble_eq_true rfl) rfl dX11_planned_75 h (Or.inr rfl) (fun v5 σ6 e7 => ?_)
      have h := e7
      refine g_pop dX11_planned_78 ?_
      refine g_aload_n dX11_planned_79 rfl rfl ?_
      refine g_invVI (as := []) (rest := []) okX11_toldOf mlX11_129 (by decide) rfl ⟨_, _, rfl⟩ rfl ⟨Nat.le_of_ble_eq_true rfl, Nat.le_of_ble_eq_true rfl⟩ (Nat.le_of_ble_eq_true rfl) rfl dX11_planned_80 h (Or.inl rfl) (fun v8 σ9 e10 => ?_)
      have h := e10
      exact g_ireturn rfl dX11_planned_83 h
    · have h := h.2 c2
      refine g_iconst dX11_planned_66 (by decide) ?_
      exact g_ireturn rfl dX11_planned_67 h
  · have h := h.2 c1
    refine g_iload_n dX11_planned_42 rfl rfl ?_
    refine g_iconst dX11_planned_43 (by decide) ?_
    refine g_icmp_eq (tgt := 61) dX11_planned_44 (by decide) (fun c11 => ?_) (fun c11 => ?_)
    · have h := h.1 c11
      refine g_iload_n dX11_planned_61 rfl rfl ?_
      refine g_iconst dX11_planned_62 (by decide) ?_
      refine g_icmp_ne (tgt := 68) dX11_planned_63 (by decide) (fun c12 => ?_) (fun c12 => ?_)
      · have h := h.1 c12
        refine g_aload_n dX11_planned_68 rfl rfl ?_
        refine g_aload_n dX11_planned_69 rfl rfl ?_
        refine g_getR (r' := 92) flX11_69 (by decide) rfl (by decide) rfl dX11_planned_70 ?_
        refine g_iload_n dX11_planned_73 rfl rfl ?_
        obtain ⟨p13, h⟩ := h
        obtain ⟨p14, h⟩ := h
        refine g_iald (by decide) rfl p13 p14 dX11_planned_74 ?_
        refine g_invVI (as := [.inl (σ 92 (x3).toNat)]) (rest := []) okX11_layRow mlX11_149 (by decide) rfl ⟨_, _, rfl⟩ rfl ⟨Nat.le_of_ble_eq_true rfl, Nat.le_of_ble_eq_true rfl⟩ (Nat.le_of_ble_eq_true rfl) rfl dX11_planned_75 h (Or.inr rfl) (fun v15 σ16 e17 => ?_)
        have h := e17
        refine g_pop dX11_planned_78 ?_
        refine g_aload_n dX11_planned_79 rfl rfl ?_
        refine g_invVI (as := []) (rest := []) okX11_toldOf mlX11_129 (by decide) rfl ⟨_, _, rfl⟩ rfl ⟨Nat.le_of_ble_eq_true rfl, Nat.le_of_ble_eq_true rfl⟩ (Nat.le_of_ble_eq_true rfl) rfl dX11_planned_80 h (Or.inl rfl) (fun v18 σ19 e20 => ?_)
        have h := e20
        exact g_ireturn rfl dX11_planned_83 h
      · have h := h.2 c12
        refine g_iconst dX11_planned_66 (by decide) ?_
        exact g_ireturn rfl dX11_planned_67 h
    · have h := h.2 c11
      refine g_aload_n dX11_planned_47 rfl rfl ?_
      refine g_iload dX11_planned_48 rfl ?_
      refine g_iload_n dX11_planned_50 rfl rfl ?_
      refine g_invVI (as := [.inl x4, .inl x3]) (rest := []) okX11_firstOf mlX11_199 (by decide) rfl ⟨_, _, rfl⟩ rfl ⟨Nat.le_of_ble_eq_true rfl, Nat.le_of_ble_eq_true rfl⟩ (Nat.le_of_ble_eq_true rfl) rfl dX11_planned_51 h (Or.inl rfl) (fun v21 σ22 e23 => ?_)
      have h := e23
      refine g_istore_n (ls' := [some (.inr 73), some (.inl x1), some (.inl x2), some (.inl v21), some (.inl x4)]) dX11_planned_54 rfl (by decide) rfl ?_
      obtain ⟨p24, h⟩ := h
      refine g_iinc (ls' := [some (.inr 73), some (.inl x1), some (.inl x2), some (.inl v21), some (.inl (x4 + 1))]) dX11_planned_55 (by decide) rfl p24 rfl ?_
      refine g_goto (tgt := 36) dX11_planned_58 (by decide) ?_
      exact h
theorem c_X11_isSpan {σ : Mem} {x : Int} : CM mX11_isSpan [.inl x] σ (fun v σ1 => v = (if 1 ≤ x ∧ x ≤ 4 then 1 else 0) ∧ σ1 = σ) := rX11_isSpan_0 ⟨ite_01, rfl, rfl⟩
def pq (D : Dt) (i : Nat) : List Nat := (pE D).getD i []
theorem pq_eq {D : Dt} {i : Nat} (h : i < (pE D).length) : pq D i = (pE D)[i] := by simp [pq, List.getD, h]
theorem pq_mem {D : Dt} {i : Nat} (h : i < (pE D).length) : pq D i ∈ pE D := by rw [pq_eq h]; exact List.getElem_mem h
def encF : Option Int → Int
  | none => 100000000
  | some v => v
theorem encF_none : encF none = 100000000 := rfl
theorem encF_some {v : Int} : encF (some v) = v := rfl
/-- the reference holds all places in order -/
def RM (Z : Zt) (σ : Mem) : Prop := σ 73 26 = (pE (zD Z)).length ∧ ∀ i, i < (pE (zD Z)).length → σ 92 i = nm (pq (zD Z) i)
theorem RM.same {Z : Zt} {S : List Nat} {σ σ1 : Mem} (h : RM Z σ) (hS : Same S σ σ1) (h1 : 73 ∉ S) (h2 : 92 ∉ S) : RM Z σ1 := by
  unfold RM at h ⊢
  rw [hS 73 h1, hS 92 h2]
  exact h
theorem pE_len2 {Z : Zt} (hZ : GZ Z) : (pE (zD Z)).length ≤ 720 := enum_len _ (by have := hZ.n6; omega) _ (by have := hZ.m5; omega) hZ.mn
theorem k_lay {Z : Zt} {σ : Mem} {i : Nat} {x : Int} (hZ : GZ Z) (hM : MI Z σ) (hi : i < (pE (zD Z)).length) (e : x = nm (pq (zD Z) i)) : CM mX11_layRow [.inr 73, .inl x] σ (fun _ σ1 => hld σ1 88 (pq (zD Z) i) ∧ Same [88] σ σ1) := by
  have hp := pE_ok (pq_mem hi)
  have h6 := okP.s6 hZ hp.2
  refine CM.mono (fun _ σ1 hq => ?_) (c_X11_layRow (k := nm (pq (zD Z) i)) hZ hM (by rw [← hp.1]; exact nm_lt _ h6) e)
  obtain ⟨-, q1, q2⟩ := hq
  rw [dig_nm _ _ hp.1 h6] at q1
  exact ⟨q1, q2⟩
theorem c_X11_changed {Z : Zt} {σ : Mem} {i j : Nat} {x1 x2 : Int} (hZ : GZ Z) (hM : MI Z σ) (hR : RM Z σ) (hi : i < (pE (zD Z)).length) (hj : j < (pE (zD Z)).length) (e1 : x1 = i) (e2 : x2 = j) : CM mX11_changed [.inr 73, .inl x1, .inl x2] σ (fun v σ1 => v = mvL (dV (zD Z)) (pq (zD Z) i) (pq (zD Z) j) ∧ Same [88, 94] σ σ1) := by
  subst e1 e2
  have h5 := hZ.m5
  have h720 := pE_len2 hZ
  have hpi := pE_ok (pq_mem hi)
  have hpj := pE_ok (pq_mem hj)
  have hwt := hZ.wf.2.2.2.2.2.2.2.2.1
  have last : ∀ (d t : Nat) (σ0 : Mem), t + d = dm (zD Z) → Same [88, 94] σ σ0 → hld σ0 88 (pq (zD Z) j) → hld σ0 94 (pq (zD Z) i) → GO none mX11_changed 55 [some (.inr 73), some (.inl (i : Int)), some (.inl (j : Int)), some (.inl (sumF (fun t => if pg (pq (zD Z) i) t = pg (pq (zD Z) j) t then 0 else dV (zD Z) t) t)), some (.inl (t : Int))] [] σ0 (fun v σ1 => v = mvL (dV (zD Z)) (pq (zD Z) i) (pq (zD Z) j) ∧ Same [88, 94] σ σ1) := by
    intro d
    induction d with
    | zero =>
      intro t σ0 hd hS h1 h2
      have hm : σ0 73 5 = dm (zD Z) := by rw [hS 73 (by decide)]; exact hM.m
      refine rX11_changed_55 ⟨fun _ => ⟨?_, hS⟩, fun h => by omega⟩
      unfold mvL
      rw [hpi.1, show t = dm (zD Z) by omega]
    | succ d ih =>
      intro t σ0 hd hS h1 h2
      have hm : σ0 73 5 = dm (zD Z) := by rw [hS 73 (by decide)]; exact hM.m
      have e79 : σ0 79 = dV (zD Z) := by rw [hS 79 (by decide)]; exact hM.v
      have hb := sumF_bd (f := fun t => if pg (pq (zD Z) i) t = pg (pq (zD Z) j) t then 0 else dV (zD Z) t) (c := 50) (n := t) (fun u hu => by
        have := hwt u (by omega)
        show 0 ≤ (if pg (pq (zD Z) i) u = pg (pq (zD Z) j) u then (0 : Int) else dV (zD Z) u) ∧ (if pg (pq (zD Z) i) u = pg (pq (zD Z) j) u then (0 : Int) else dV (zD Z) u) ≤ 50
        split <;> omega)
      have hwt1 := hwt t (by omega)
      have := ih (t + 1) σ0 (by omega) hS h1 h2
      rw [sumF_succ] at this
      refine rX11_changed_55 ⟨fun h => by omega, fun _ => ?_⟩
      rw [Int.toNat_natCast, h1.pg (by omega), h2.pg (by omega), e79]
      refine ⟨by omega, by omega, fun h => ⟨by omega, by omega, ?_⟩, fun h => ⟨by omega, by omega, ?_⟩⟩
      · rw [if_neg (by omega)] at this; exact this
      · rw [if_pos (by omega)] at this; exact this
  have mid : ∀ (d t : Nat) (σ0 : Mem), t + d = dm (zD Z) → Same [88, 94] σ σ0 → hld σ0 88 (pq (zD Z) i) → hld σ0 94 ((pq (zD Z) i).take t) → GO none mX11_changed 13 [some (.inr 73), some (.inl (i : Int)), some (.inl (j : Int)), some (.inl (t : Int)), none] [] σ0 (fun v σ1 => v = mvL (dV (zD Z)) (pq (zD Z) i) (pq (zD Z) j) ∧ Same [88, 94] σ σ1) := by
    intro d
    induction d with
    | zero =>
      intro t σ0 hd hS h1 h2
      have hm : σ0 73 5 = dm (zD Z) := by rw [hS 73 (by decide)]; exact hM.m
      rw [List.take_of_length_le (by omega)] at h2
      refine rX11_changed_13 ⟨fun _ => ⟨by omega, by omega, ?_⟩, fun h => by omega⟩
      rw [Int.toNat_natCast]
      refine CM.mono (fun _ σ1 hq => ?_) (k_lay (i := j) hZ (hM.same (MSm.same hS (by decide)) (by decide)) hj ((hR.same hS (by decide) (by decide)).2 j hj))
      obtain ⟨q1, q2⟩ := hq
      exact last (dm (zD Z)) 0 σ1 (by omega) (hS.tr (q2.wk (by decide))) q1 (h2.cong (q2 94 (by decide)))
    | succ d ih =>
      intro t σ0 hd hS h1 h2
      have hm : σ0 73 5 = dm (zD Z) := by rw [hS 73 (by decide)]; exact hM.m
      refine rX11_changed_13 ⟨fun h => by omega, fun _ => ⟨by omega, by omega, by omega, ?_⟩⟩
      rw [Int.toNat_natCast]
      exact ih (t + 1) _ (by omega) (hS.tr (Same.mu (by decide))) (h1.cong (mu_nef (by decide))) (hld_take h1 (by omega) h2)
  refine rX11_changed_0 ⟨by omega, by omega, ?_⟩
  rw [Int.toNat_natCast]
  refine CM.mono (fun _ σ1 hq => ?_) (k_lay (i := i) hZ hM hi (hR.2 i hi))
  obtain ⟨q1, q2⟩ := hq
  exact mid (dm (zD Z)) 0 σ1 (by omega) (q2.wk (by decide)) q1 hld_nil
/-- the first of the least among the first j -/
def ffo (D : Dt) (f : List Nat → Option Int) (j : Nat) : Option (Int × List Nat) := ((pE D).take j).foldl (fmS f) none
theorem ffo_all {D : Dt} {f : List Nat → Option Int} : ffo D f (pE D).length = fmin f (pE D) := by unfold ffo fmin; rw [List.take_length]
theorem ffo_succ {D : Dt} {f : List Nat → Option Int} {j : Nat} (h : j < (pE D).length) : ffo D f (j + 1) = fmS f (ffo D f j) (pq D j) := by
  unfold ffo
  rw [List.take_add_one, List.getElem?_eq_getElem h, List.foldl_append, pq_eq h]
  rfl
def stR (D : Dt) (f : List Nat → Option Int) (j : Nat) (x3 x4 : Int) : Prop := (ffo D f j = none ∧ x3 = -1 ∧ x4 = 100000000) ∨ ∃ (i : Nat) (a : Int), i < j ∧ ffo D f j = some (a, pq D i) ∧ x3 = i ∧ x4 = a ∧ 0 ≤ a ∧ a ≤ 500000
theorem stR.zero {D : Dt} {f : List Nat → Option Int} : stR D f 0 (-1) 100000000 := Or.inl ⟨rfl, rfl, rfl⟩
theorem stR.le {D : Dt} {f : List Nat → Option Int} {j : Nat} {x3 x4 : Int} (h : stR D f j x3 x4) : 0 ≤ x4 ∧ x4 ≤ 100000000 := by
  rcases h with ⟨-, -, h⟩ | ⟨i, a, -, -, -, h, h2, h3⟩ <;> omega
theorem stR.none {D : Dt} {f : List Nat → Option Int} {j : Nat} {x3 x4 : Int} (h : stR D f j x3 x4) (hj : j < (pE D).length) (hf : f (pq D j) = Option.none) : stR D f (j + 1) x3 x4 := by
  have e : ffo D f (j + 1) = ffo D f j := by rw [ffo_succ hj]; unfold fmS; rw [hf]
  unfold stR
  rw [e]
  rcases h with h | ⟨i, a, h1, h2⟩
  · exact Or.inl h
  · exact Or.inr ⟨i, a, by omega, h2⟩
theorem stR.keep {D : Dt} {f : List Nat → Option Int} {j : Nat} {x3 x4 v : Int} (h : stR D f j x3 x4) (hj : j < (pE D).length) (hf : f (pq D j) = some v) (hv : x4 ≤ v) (hb : v ≤ 500000) : stR D f (j + 1) x3 x4 := by
  rcases h with ⟨-, -, h3⟩ | ⟨i, a, h1, h2, h3, h4, h5⟩
  · omega
  · refine Or.inr ⟨i, a, by omega, ?_, h3, h4, h5⟩
    rw [ffo_succ hj, h2]
    unfold fmS
    rw [hf]
    show (if v < a then some (v, pq D j) else some (a, pq D i)) = _
    rw [if_neg (by omega)]
theorem stR.new {D : Dt} {f : List Nat → Option Int} {j : Nat} {x3 x4 v : Int} (h : stR D f j x3 x4) (hj : j < (pE D).length) (hf : f (pq D j) = some v) (hv : v < x4) (h0 : 0 ≤ v) (hb : v ≤ 500000) : stR D f (j + 1) j v := by
  refine Or.inr ⟨j, v, by omega, ?_, rfl, rfl, h0, hb⟩
  rw [ffo_succ hj]
  unfold fmS
  rw [hf]
  rcases h with ⟨h1, -, -⟩ | ⟨i, a, -, h1, -, h4, -⟩
  · rw [h1]
  · rw [h1]
    show (if v < a then some (v, pq D j) else some (a, pq D i)) = _
    rw [if_pos (by omega)]
/-- a year's row of the table -/
def PT (Z : Zt) (g : List Nat → Option Int) (y : Nat) (σ : Mem) : Prop := ∀ i, i < (pE (zD Z)).length → σ 93 (720 * y + i) = encF (g (pq (zD Z) i)) ∧ ∀ v, g (pq (zD Z) i) = some v → 0 ≤ v ∧ v ≤ 360000
theorem c_X11_firstOf {Z : Zt} {σ : Mem} {y : Nat} {x1 x2 : Int} {g f : List Nat → Option Int} (hZ : GZ Z) (hM : MI Z σ) (hR : RM Z σ) (hT : PT Z g y σ) (hy : y < 4) (e1 : x1 = y) (hf : (x2 = -1 ∧ f = g) ∨ ∃ i : Nat, i < (pE (zD Z)).length ∧ x2 = i ∧ f = fun q => (g q).map (· + mvL (dV (zD Z)) (pq (zD Z) i) q)) : CM mX11_firstOf [.inr 73, .inl x1, .inl x2] σ (fun v σ1 => ((v = -1 ∧ fmin f (pE (zD Z)) = none) ∨ ∃ (i : Nat) (a : Int), i < (pE (zD Z)).length ∧ v = i ∧ fmin f (pE (zD Z)) = some (a, pq (zD Z) i)) ∧ Same [88, 94] σ σ1) := by
  subst e1
  have h720 := pE_len2 hZ
  have key : ∀ (d j : Nat) (x3 x4 : Int) (σ0 : Mem), j + d = (pE (zD Z)).length → stR (zD Z) f j x3 x4 → Same [88, 94] σ σ0 → GO none mX11_firstOf 9 [some (.inr 73), some (.inl (y : Int)), some (.inl x2), some (.inl x3), some (.inl x4), some (.inl (j : Int)), none] [] σ0 (fun v σ1 => ((v = -1 ∧ fmin f (pE (zD Z)) = none) ∨ ∃ (i : Nat) (a : Int), i < (pE (zD Z)).length ∧ v = i ∧ fmin f (pE (zD Z)) = some (a, pq (zD Z) i)) ∧ Same [88, 94] σ σ1) := by
    intro d
    induction d with
    | zero =>
      intro j x3 x4 σ0 hd hs hS
      have e26 : σ0 73 26 = (pE (zD Z)).length := by rw [hS 73 (by decide)]; exact hR.1
      have e : j = (pE (zD Z)).length := by omega
      refine rX11_firstOf_9 ⟨fun _ => ⟨?_, hS⟩, fun h => by omega⟩
      rw [← ffo_all, ← e]
      rcases hs with ⟨s1, s2, -⟩ | ⟨i, a, s1, s2, s3, -⟩
      · exact Or.inl ⟨s2, s1⟩
      · exact Or.inr ⟨i, a, s1, s3, s2⟩
    | succ d ih =>
      intro j x3 x4 σ0 hd hs hS
      have e26 : σ0 73 26 = (pE (zD Z)).length := by rw [hS 73 (by decide)]; exact hR.1
      have hj : j < (pE (zD Z)).length := by omega
      have hx4 := hs.le
      obtain ⟨t1, t2⟩ := hT j hj
      have e93 : σ0 93 (720 * y + j) = encF (g (pq (zD Z) j)) := by rw [hS 93 (by decide)]; exact t1
      refine rX11_firstOf_9 ⟨fun h => by omega, fun _ => ?_⟩
      rw [show (720 * (y : Int) + (j : Int)).toNat = 720 * y + j by omega, e93]
      cases hg : g (pq (zD Z) j) with
      | none =>
        have hfn : f (pq (zD Z) j) = Option.none := by
          rcases hf with ⟨-, rfl⟩ | ⟨i, -, -, rfl⟩
          · exact hg
          · show (g (pq (zD Z) j)).map _ = _
            rw [hg]; rfl
        rw [encF_none]
        exact ⟨by omega, by omega, by omega, by omega, fun _ => ⟨by omega, fun _ => ⟨by omega, ih (j + 1) x3 x4 σ0 (by omega) (hs.none hj hfn) hS⟩, fun h => by omega⟩, fun h => by omega⟩
      | some v =>
        have hv := t2 v hg
        rw [encF_some]
        refine ⟨by omega, by omega, by omega, by omega, fun h => by omega, fun _ => ⟨fun hx => ?_, fun hx => ?_⟩⟩
        · have hfv : f (pq (zD Z) j) = some v := by
            rcases hf with ⟨-, rfl⟩ | ⟨i, -, h2, -⟩
            · exact hg
            · omega
          rw [Int.add_zero]
          exact ⟨by omega, fun h => ⟨by omega, ih (j + 1) x3 x4 σ0 (by omega) (hs.keep hj hfv h (by omega)) hS⟩, fun h => ⟨by omega, ih (j + 1) j v σ0 (by omega) (hs.new hj hfv h (by omega) (by omega)) hS⟩⟩
        · obtain ⟨i, hi, hxi, rfl⟩ := hf.resolve_left (fun z => hx z.1)
          refine CM.mono (fun w σ1 hq => ?_) (c_X11_changed (i := i) (j := j) hZ (hM.same (MSm.same hS (by decide)) (by decide)) (hR.same hS (by decide) (by decide)) hi hj hxi rfl)
          obtain ⟨rfl, hS1⟩ := hq
          have hmb := mvL_bdD hZ.wf (q := pq (zD Z) j) (pE_ok (pq_mem hi)).1
          have hfv : (fun q => (g q).map (· + mvL (dV (zD Z)) (pq (zD Z) i) q)) (pq (zD Z) j) = some (v + mvL (dV (zD Z)) (pq (zD Z) i) (pq (zD Z) j)) := by
            show (g (pq (zD Z) j)).map _ = _
            rw [hg]; rfl
          exact ⟨by omega, fun h => ⟨by omega, ih (j + 1) x3 x4 σ1 (by omega) (hs.keep hj hfv h (by omega)) (hS.tr hS1)⟩, fun h => ⟨by omega, ih (j + 1) j _ σ1 (by omega) (hs.new hj hfv h (by omega) (by omega)) (hS.tr hS1)⟩⟩
  exact rX11_firstOf_0 (key (pE (zD Z)).length 0 (-1) 100000000 σ (by omega) stR.zero Same.rf)
