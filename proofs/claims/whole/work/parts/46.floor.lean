/-! ===== the reference: how low no cost can go ===== -/
set_option maxRecDepth 100000 in
theorem rX11_sortIn_0 {x1 x2 : Int}  {σ : Mem} {Q : Int → Mem → Prop} (h : GO none mX11_sortIn 2 [some (.inr 73), some (.inl x1), some (.inl x2), some (.inl x2)] [] σ Q) : CM mX11_sortIn [.inr 73, .inl x1, .inl x2] σ Q := by
  refine CM_of_GO (by decide +kernel) rfl (Nat.le_of_ble_eq_true rfl) ?_
  show GO none mX11_sortIn 0 [some (.inr 73), some (.inl x1), some (.inl x2), none] [] σ Q
  refine g_iload_n dX11_sortIn_0 rfl rfl ?_
  refine g_istore_n (ls' := [some (.inr 73), some (.inl x1), some (.inl x2), some (.inl x2)]) dX11_sortIn_1 rfl (by decide) rfl ?_
  exact h
set_option maxRecDepth 100000 in
theorem rX11_sortIn_2 {x1 x2 x3 : Int}  {σ : Mem} {Q : Int → Mem → Prop} (h : (x3 ≤ 0 → ((0 ≤ x3) ∧ (((x3 < 15) ∧ (Q 0 (mu σ 89 (x3).toNat x1)))))) ∧ (0 < x3 → ((inR (x3 - 1)) ∧ (((0 ≤ (x3 - 1)) ∧ ((((x3 - 1) < 15) ∧ (((σ 89 ((x3 - 1)).toNat) ≤ x1 → ((0 ≤ x3) ∧ (((x3 < 15) ∧ (Q 0 (mu σ 89 (x3).toNat x1)))))) ∧ (x1 < (σ 89 ((x3 - 1)).toNat) → ((0 ≤ x3) ∧ (((x3 < 15) ∧ (((inR (x3 + (-1))) ∧ (GO none mX11_sortIn 2 [some (.inr 73), some (.inl x1), some (.inl x2), some (.inl (x3 + (-1)))] [] (mu σ 89 (x3).toNat (σ 89 ((x3 - 1)).toNat)) Q))))))))))))))) : GO none mX11_sortIn 2 [some (.inr 73), some (.inl x1), some (.inl x2), some (.inl x3)] [] σ Q := by
  refine g_iload_n dX11_sortIn_2 rfl rfl ?_
  refine g_if_le (tgt := 38) dX11_sortIn_3 (by decide) (fun c1 => ?_) (fun c1 => ?_)
  · have h := h.1 c1
    refine g_aload_n dX11_sortIn_38 rfl rfl ?_
    refine g_getR (r' := 89) flX11_60 (by decide) rfl (by decide) rfl dX11_sortIn_39 ?_
    refine g_iload_n dX11_sortIn_42 rfl rfl ?_
    refine g_iload_n dX11_sortIn_43 rfl rfl ?_
    obtain ⟨p2, h⟩ := h
    obtain ⟨p3, h⟩ := h
    refine g_iast (by decide) rfl p2 p3 dX11_sortIn_44 ?_
    exact g_return rfl dX11_sortIn_45 h
  · have h := h.2 c1
    refine g_aload_n dX11_sortIn_6 rfl rfl ?_
    refine g_getR (r' := 89) flX11_60 (by decide) rfl (by decide) rfl dX11_sortIn_7 ?_
    refine g_iload_n dX11_sortIn_10 rfl rfl ?_
    refine g_iconst dX11_sortIn_11 (by decide) ?_
    obtain ⟨p4, h⟩ := h
    refine g_isub dX11_sortIn_12 p4 ?_
    obtain ⟨p5, h⟩ := h
    obtain ⟨p6, h⟩ := h
    refine g_iald (by decide) rfl p5 p6 dX11_sortIn_13 ?_
    refine g_iload_n dX11_sortIn_14 rfl rfl ?_
    refine g_icmp_le (tgt := 38) dX11_sortIn_15 (by decide) (fun c7 => ?_) (fun c7 => ?_)
    · have h := h.1 c7
      refine g_aload_n dX11_sortIn_38 rfl rfl ?_
      refine g_getR (r' := 89) flX11_60 (by decide) rfl (by decide) rfl dX11_sortIn_39 ?_
      refine g_iload_n dX11_sortIn_42 rfl rfl ?_
      refine g_iload_n dX11_sortIn_43 rfl rfl ?_
      obtain ⟨p8, h⟩ := h
      obtain ⟨p9, h⟩ := h
      refine g_iast (by decide) rfl p8 p9 dX11_sortIn_44 ?_
      exact g_return rfl dX11_sortIn_45 h
    · have h := h.2 c7
      refine g_aload_n dX11_sortIn_18 rfl rfl ?_
      refine g_getR (r' := 89) flX11_60 (by decide) rfl (by decide) rfl dX11_sortIn_19 ?_
      refine g_iload_n dX11_sortIn_22 rfl rfl ?_
      refine g_aload_n dX11_sortIn_23 rfl rfl ?_
      refine g_getR (r' := 89) flX11_60 (by decide) rfl (by decide) rfl dX11_sortIn_24 ?_
      refine g_iload_n dX11_sortIn_27 rfl rfl ?_
      refine g_iconst dX11_sortIn_28 (by decide) ?_
      refine g_isub dX11_sortIn_29 p4 ?_
      refine g_iald (by decide) rfl p5 p6 dX11_sortIn_30 ?_
      obtain ⟨p10, h⟩ := h
      obtain ⟨p11, h⟩ := h
      refine g_iast (by decide) rfl p10 p11 dX11_sortIn_31 ?_
      obtain ⟨p12, h⟩ := h
      refine g_iinc (ls' := [some (.inr 73), some (.inl x1), some (.inl x2), some (.inl (x3 + (-1)))]) dX11_sortIn_32 (by decide) rfl p12 rfl ?_
      refine g_goto (tgt := 2) dX11_sortIn_35 (by decide) ?_
      exact h
set_option maxRecDepth 100000 in
theorem rX11_floor_0 {x1 : Int}  {σ : Mem} {Q : Int → Mem → Prop} (h : (0 ≤ x1 ∧ x1 < 4 → CM mX11_layFloor [.inr 73] σ (fun _ σ6 => GO none mX11_floor 18 [some (.inr 73), some (.inl x1), some (.inl 0), some (.inl 0), none, none] [] σ6 Q)) ∧ (¬ (0 ≤ x1 ∧ x1 < 4) → Q (-2) σ)) : CM mX11_floor [.inr 73, .inl x1] σ Q := by
  refine CM_of_GO (by decide +kernel) rfl (Nat.le_of_ble_eq_true rfl) ?_
  show GO none mX11_floor 0 [some (.inr 73), some (.inl x1), none, none, none, none] [] σ Q
  refine g_iload_n dX11_floor_0 rfl rfl ?_
  refine g_invSI (as := [.inl x1]) (rest := []) okX11_isYear rfl mlX11_107 rfl ⟨Nat.le_of_ble_eq_true rfl, Nat.le_of_ble_eq_true rfl⟩ (Nat.le_of_ble_eq_true rfl) rfl dX11_floor_1 (c_X11_isYear) (Or.inr rfl) (fun v1 σ2 e3 => ?_)
  obtain ⟨e3a, e3b⟩ := e3; subst v1; subst σ2
  refine g_if_ne (tgt := 10) dX11_floor_4 (by decide) (fun c4 => ?_) (fun c4 => ?_)
  · have h := h.1 (ite_yes c4)
    refine g_aload_n dX11_floor_10 rfl rfl ?_
    refine g_invVV (as := []) (rest := []) okX11_layFloor mlX11_104 (by decide) rfl ⟨_, _, rfl⟩ rfl ⟨Nat.le_of_ble_eq_true rfl, Nat.le_of_ble_eq_true rfl⟩ (Nat.le_of_ble_eq_true rfl) rfl dX11_floor_11 h rfl (fun σ6 e7 => ?_)
    have h := e7
    refine g_iconst dX11_floor_14 (by decide) ?_
    refine g_istore_n (ls' := [some (.inr 73), some (.inl x1), some (.inl 0), none, none, none]) dX11_floor_15 rfl (by decide) rfl ?_
    refine g_iconst dX11_floor_16 (by decide) ?_
    refine g_istore_n (ls' := [some (.inr 73), some (.inl x1), some (.inl 0), some (.inl 0), none, none]) dX11_floor_17 rfl (by decide) rfl ?_
    exact h
  · have h := h.2 (ite_no c4)
    refine g_bipush dX11_floor_7 (by decide) (by decide) ?_
    exact g_ireturn rfl dX11_floor_9 h
set_option maxRecDepth 100000 in
theorem rX11_floor_18 {x1 x2 x3 : Int}  {σ : Mem} {Q : Int → Mem → Prop} (h : ((σ 73 5) ≤ x3 → GO none mX11_floor 99 [some (.inr 73), some (.inl x1), some (.inl x2), some (.inl 0), none, none] [] σ Q) ∧ (x3 < (σ 73 5) → GO none mX11_floor 29 [some (.inr 73), some (.inl x1), some (.inl x2), some (.inl x3), some (.inl 0), none] [] σ Q)) : GO none mX11_floor 18 [some (.inr 73), some (.inl x1), some (.inl x2), some (.inl x3), none, none] [] σ Q := by
  refine g_iload_n dX11_floor_18 rfl rfl ?_
  refine g_aload_n dX11_floor_19 rfl rfl ?_
  refine g_getI flX11_85 (by decide) rfl (by decide) rfl dX11_floor_20 ?_
  refine g_icmp_ge (tgt := 97) dX11_floor_23 (by decide) (fun c1 => ?_) (fun c1 => ?_)
  · have h := h.1 c1
    refine g_iconst dX11_floor_97 (by decide) ?_
    refine g_istore_n (ls' := [some (.inr 73), some (.inl x1), some (.inl x2), some (.inl 0), none, none]) dX11_floor_98 rfl (by decide) rfl ?_
    exact h
  · have h := h.2 c1
    refine g_iconst dX11_floor_26 (by decide) ?_
    refine g_istore (ls' := [some (.inr 73), some (.inl x1), some (.inl x2), some (.inl x3), some (.inl 0), none]) dX11_floor_27 (by decide) rfl ?_
    exact h
set_option maxRecDepth 100000 in
theorem rX11_floor_29 {x1 x2 x3 x4 : Int}  {σ : Mem} {Q : Int → Mem → Prop} (h : (x3 ≤ x4 → ((inR (x3 + 1)) ∧ (GO none mX11_floor 18 [some (.inr 73), some (.inl x1), some (.inl x2), some (.inl (x3 + 1)), none, none] [] σ Q))) ∧ (x4 < x3 → ((inR (25 * x1)) ∧ (((inR (5 * x3)) ∧ (((inR ((25 * x1) + (5 * x3))) ∧ (((inR (((25 * x1) + (5 * x3)) + x4)) ∧ (((0 ≤ (((25 * x1) + (5 * x3)) + x4)) ∧ ((((((25 * x1) + (5 * x3)) + x4) < 100) ∧ (((inR (5 * x4)) ∧ (((inR ((25 * x1) + (5 * x4))) ∧ (((inR (((25 * x1) + (5 * x4)) + x3)) ∧ (((0 ≤ (((25 * x1) + (5 * x4)) + x3)) ∧ ((((((25 * x1) + (5 * x4)) + x3) < 100) ∧ (((inR ((σ 78 ((((25 * x1) + (5 * x3)) + x4)).toNat) + (σ 78 ((((25 * x1) + (5 * x4)) + x3)).toNat))) ∧ ((((σ 78 ((((25 * x1) + (5 * x3)) + x4)).toNat) + (σ 78 ((((25 * x1) + (5 * x4)) + x3)).toNat)) ≤ 0 → ((inR (x4 + 1)) ∧ (GO none mX11_floor 29 [some (.inr 73), some (.inl x1), some (.inl x2), some (.inl x3), some (.inl (x4 + 1)), none] [] σ Q))) ∧ (0 < ((σ 78 ((((25 * x1) + (5 * x3)) + x4)).toNat) + (σ 78 ((((25 * x1) + (5 * x4)) + x3)).toNat)) → CM mX11_sortIn [.inr 73, .inl ((σ 78 ((((25 * x1) + (5 * x3)) + x4)).toNat) + (σ 78 ((((25 * x1) + (5 * x4)) + x3)).toNat)), .inl x2] σ (fun _ σ18 => ((inR (x2 + 1)) ∧ (((inR (x4 + 1)) ∧ (GO none mX11_floor 29 [some (.inr 73), some (.inl x1), some (.inl (x2 + 1)), some (.inl x3), some (.inl (x4 + 1)), none] [] σ18 Q)))))))))))))))))))))))))))))))) : GO none mX11_floor 29 [some (.inr 73), some (.inl x1), some (.inl x2), some (.inl x3), some (.inl x4), none] [] σ Q := by
  refine g_iload dX11_floor_29 rfl ?_
  refine g_iload_n dX11_floor_31 rfl rfl ?_
  refine g_icmp_ge (tgt := 91) dX11_floor_32 (by decide) (fun c1 => ?_) (fun c1 => ?_)
  · have h := h.1 c1
    obtain ⟨p2, h⟩ := h
    refine g_iinc (ls' := [some (.inr 73), some (.inl x1), some (.inl x2), some (.inl (x3 + 1)), some (.inl x4), none]) dX11_floor_91 (by decide) rfl p2 rfl ?_
    refine g_goto (tgt := 18) dX11_floor_94 (by decide) ?_
    refine g_kill (i := 4) (ls' := [some (.inr 73), some (.inl x1), some (.inl x2), some (.inl (x3 + 1)), none, none]) rfl ?_
    exact h
  · have h := h.2 c1
    refine g_aload_n dX11_floor_35 rfl rfl ?_
    refine g_getR (r' := 78) flX11_27 (by decide) rfl (by decide) rfl dX11_floor_36 ?_
    refine g_bipush dX11_floor_39 (by decide) (by decide) ?_
    refine g_iload_n dX11_floor_41 rfl rfl ?_
    obtain ⟨p3, h⟩ := h
    refine g_imul dX11_floor_42 p3 ?_
    refine g_iconst dX11_floor_43 (by decide) ?_
    refine g_iload_n dX11_floor_44 rfl rfl ?_
    obtain ⟨p4, h⟩ := h
    refine g_imul dX11_floor_45 p4 ?_
    obtain ⟨p5, h⟩ := h
    refine g_iadd dX11_floor_46 p5 ?_
    refine g_iload dX11_floor_47 rfl ?_
    obtain ⟨p6, h⟩ := h
    refine g_iadd dX11_floor_49 p6 ?_
    obtain ⟨p7, h⟩ := h
    obtain ⟨p8, h⟩ := h
    refine g_iald (by decide) rfl p7 p8 dX11_floor_50 ?_
    refine g_aload_n dX11_floor_51 rfl rfl ?_
    refine g_getR (r' := 78) flX11_27 (by decide) rfl (by decide) rfl dX11_floor_52 ?_
    refine g_bipush dX11_floor_55 (by decide) (by decide) ?_
    refine g_iload_n dX11_floor_57 rfl rfl ?_
    refine g_imul dX11_floor_58 p3 ?_
    refine g_iconst dX11_floor_59 (by decide) ?_
    refine g_iload dX11_floor_60 rfl ?_
    obtain ⟨p9, h⟩ := h
    refine g_imul dX11_floor_62 p9 ?_
    obtain ⟨p10, h⟩ := h
    refine g_iadd dX11_floor_63 p10 ?_
    refine g_iload_n dX11_floor_64 rfl rfl ?_
    obtain ⟨p11, h⟩ := h
    refine g_iadd dX11_floor_65 p11 ?_
    obtain ⟨p12, h⟩ := h
    obtain ⟨p13, h⟩ := h
    refine g_iald (by decide) rfl p12 p13 dX11_floor_66 ?_
    obtain ⟨p14, h⟩ := h
    refine g_iadd dX11_floor_67 p14 ?_
    refine g_istore (ls' := [some (.inr 73), some (.inl x1), some (.inl x2), some (.inl x3), some (.inl x4), some (.inl ((σ 78 ((((25 * x1) + (5 * x3)) + x4)).toNat) + (σ 78 ((((25 * x1) + (5 * x4)) + x3)).toNat)))]) dX11_floor_68 (by decide) rfl ?_
    refine g_iload dX11_floor_70 rfl ?_
    refine g_if_le (tgt := 85) dX11_floor_72 (by decide) (fun c15 => ?_) (fun c15 => ?_)
    · have h := h.1 c15
      obtain ⟨p16, h⟩ := h
      refine g_iinc (ls' := [some (.inr 73), some (.inl x1), some (.inl x2), some (.inl x3), some (.inl (x4 + 1)), some (.inl ((σ 78 ((((25 * x1) + (5 * x3)) + x4)).toNat) + (σ 78 ((((25 * x1) + (5 * x4)) + x3)).toNat)))]) dX11_floor_85 (by decide) rfl p16 rfl ?_
      refine g_goto (tgt := 29) dX11_floor_88 (by decide) ?_
      refine g_kill (i := 5) (ls' := [some (.inr 73), some (.inl x1), some (.inl x2), some (.inl x3), some (.inl (x4 + 1)), none]) rfl ?_
      exact h
    · have h := h.2 c15
      refine g_aload_n dX11_floor_75 rfl rfl ?_
      refine g_iload dX11_floor_76 rfl ?_
      refine g_iload_n dX11_floor_78 rfl rfl ?_
      refine g_invVV (as := [.inl ((σ 78 ((((25 * x1) + (5 * x3)) + x4)).toNat) + (σ 78 ((((25 * x1) + (5 * x4)) + x3)).toNat)), .inl x2]) (rest := []) okX11_sortIn mlX11_155 (by decide) rfl ⟨_, _, rfl⟩ rfl ⟨Nat.le_of_ble_eq_true rfl, Nat.le_of_ble_eq_true rfl⟩ (Nat.le_of_ble_eq_true rfl) rfl dX11_floor_79 h rfl (fun σ18 e19 => ?_)
      have h := e19
      obtain ⟨p20, h⟩ := h
      refine g_iinc (ls' := [some (.inr 73), some (.inl x1), some (.inl (x2 + 1)), some (.inl x3), some (.inl x4), some (.inl ((σ 78 ((((25 * x1) + (5 * x3)) + x4)).toNat) + (σ 78 ((((25 * x1) + (5 * x4)) + x3)).toNat)))]) dX11_floor_82 (by decide) rfl p20 rfl ?_
      obtain ⟨p21, h⟩ := h
      refine g_iinc (ls' := [some (.inr 73), some (.inl x1), some (.inl (x2 + 1)), some (.inl x3), some (.inl (x4 + 1)), some (.inl ((σ 78 ((((25 * x1) + (5 * x3)) + x4)).toNat) + (σ 78 ((((25 * x1) + (5 * x4)) + x3)).toNat)))]) dX11_floor_85 (by decide) rfl p21 rfl ?_
      refine g_goto (tgt := 29) dX11_floor_88 (by decide) ?_
      refine g_kill (i := 5) (ls' := [some (.inr 73), some (.inl x1), some (.inl (x2 + 1)), some (.inl x3), some (.inl (x4 + 1)), none]) rfl ?_
      exact h
set_option maxRecDepth 100000 in
theorem rX11_floor_99 {x1 x2 x3 : Int}  {σ : Mem} {Q : Int → Mem → Prop} (h : (x2 ≤ x3 → GO none mX11_floor 131 [some (.inr 73), some (.inl x1), some (.inl x2), some (.inl 0), some (.inl 0), none] [] σ Q) ∧ (x3 < x2 → ((inR (x2 - 1)) ∧ (((inR ((x2 - 1) - x3)) ∧ (((0 ≤ ((x2 - 1) - x3)) ∧ (((((x2 - 1) - x3) < 15) ∧ (((0 ≤ x3) ∧ (((x3 < 10) ∧ (((inR (x3 + 1)) ∧ (GO none mX11_floor 99 [some (.inr 73), some (.inl x1), some (.inl x2), some (.inl (x3 + 1)), none, none] [] (mu σ 90 (x3).toNat (σ 89 (((x2 - 1) - x3)).toNat)) Q)))))))))))))))) : GO none mX11_floor 99 [some (.inr 73), some (.inl x1), some (.inl x2), some (.inl x3), none, none] [] σ Q := by
  refine g_iload_n dX11_floor_99 rfl rfl ?_
  refine g_iload_n dX11_floor_100 rfl rfl ?_
  refine g_icmp_ge (tgt := 126) dX11_floor_101 (by decide) (fun c1 => ?_) (fun c1 => ?_)
  · have h := h.1 c1
    refine g_iconst dX11_floor_126 (by decide) ?_
    refine g_istore_n (ls' := [some (.inr 73), some (.inl x1), some (.inl x2), some (.inl 0), none, none]) dX11_floor_127 rfl (by decide) rfl ?_
    refine g_iconst dX11_floor_128 (by decide) ?_
    refine g_istore (ls' := [some (.inr 73), some (.inl x1), some (.inl x2), some (.inl 0), some (.inl 0), none]) dX11_floor_129 (by decide) rfl ?_
    exact h
  · have h := h.2 c1
    refine g_aload_n dX11_floor_104 rfl rfl ?_
    refine g_getR (r' := 90) flX11_63 (by decide) rfl (by decide) rfl dX11_floor_105 ?_
    refine g_iload_n dX11_floor_108 rfl rfl ?_
    refine g_aload_n dX11_floor_109 rfl rfl ?_
    refine g_getR (r' := 89) flX11_60 (by decide) rfl (by decide) rfl dX11_floor_110 ?_
    refine g_iload_n dX11_floor_113 rfl rfl ?_
    refine g_iconst dX11_floor_114 (by decide) ?_
    obtain ⟨p2, h⟩ := h
    refine g_isub dX11_floor_115 p2 ?_
    refine g_iload_n dX11_floor_116 rfl rfl ?_
    obtain ⟨p3, h⟩ := h
    refine g_isub dX11_floor_117 p3 ?_
    obtain ⟨p4, h⟩ := h
    obtain ⟨p5, h⟩ := h
    refine g_iald (by decide) rfl p4 p5 dX11_floor_118 ?_
    obtain ⟨p6, h⟩ := h
    obtain ⟨p7, h⟩ := h
    refine g_iast (by decide) rfl p6 p7 dX11_floor_119 ?_
    obtain ⟨p8, h⟩ := h
    refine g_iinc (ls' := [some (.inr 73), some (.inl x1), some (.inl x2), some (.inl (x3 + 1)), none, none]) dX11_floor_120 (by decide) rfl p8 rfl ?_
    refine g_goto (tgt := 99) dX11_floor_123 (by decide) ?_
    exact h
set_option maxRecDepth 100000 in
theorem rX11_floor_131 {x1 x2 x3 x4 : Int}  {σ : Mem} {Q : Int → Mem → Prop} (h : ((σ 73 2) ≤ x4 → GO none mX11_floor 206 [some (.inr 73), some (.inl x1), some (.inl x2), some (.inl x3), some (.inl 0), some (.inl 0)] [] σ Q) ∧ (x4 < (σ 73 2) → GO none mX11_floor 143 [some (.inr 73), some (.inl x1), some (.inl x2), some (.inl x3), some (.inl x4), some (.inl 0)] [] σ Q)) : GO none mX11_floor 131 [some (.inr 73), some (.inl x1), some (.inl x2), some (.inl x3), some (.inl x4), none] [] σ Q := by
  refine g_iload dX11_floor_131 rfl ?_
  refine g_aload_n dX11_floor_133 rfl rfl ?_
  refine g_getI flX11_82 (by decide) rfl (by decide) rfl dX11_floor_134 ?_
  refine g_icmp_ge (tgt := 200) dX11_floor_137 (by decide) (fun c1 => ?_) (fun c1 => ?_)
  · have h := h.1 c1
    refine g_iconst dX11_floor_200 (by decide) ?_
    refine g_istore (ls' := [some (.inr 73), some (.inl x1), some (.inl x2), some (.inl x3), some (.inl 0), none]) dX11_floor_201 (by decide) rfl ?_
    refine g_iconst dX11_floor_203 (by decide) ?_
    refine g_istore (ls' := [some (.inr 73), some (.inl x1), some (.inl x2), some (.inl x3), some (.inl 0), some (.inl 0)]) dX11_floor_204 (by decide) rfl ?_
    exact h
  · have h := h.2 c1
    refine g_iconst dX11_floor_140 (by decide) ?_
    refine g_istore (ls' := [some (.inr 73), some (.inl x1), some (.inl x2), some (.inl x3), some (.inl x4), some (.inl 0)]) dX11_floor_141 (by decide) rfl ?_
    exact h
set_option maxRecDepth 100000 in
theorem rX11_floor_143 {x1 x2 x3 x4 x5 : Int}  {σ : Mem} {Q : Int → Mem → Prop} (h : (x4 ≤ x5 → ((inR (x4 + 1)) ∧ (GO none mX11_floor 131 [some (.inr 73), some (.inl x1), some (.inl x2), some (.inl x3), some (.inl (x4 + 1)), none] [] σ Q))) ∧ (x5 < x4 → ((inR (6 * x4)) ∧ (((inR ((6 * x4) + x5)) ∧ (((0 ≤ ((6 * x4) + x5)) ∧ (((((6 * x4) + x5) < 36) ∧ (((σ 86 (((6 * x4) + x5)).toNat) = (-1) → ((inR (x5 + 1)) ∧ (GO none mX11_floor 143 [some (.inr 73), some (.inl x1), some (.inl x2), some (.inl x3), some (.inl x4), some (.inl (x5 + 1))] [] σ Q))) ∧ ((σ 86 (((6 * x4) + x5)).toNat) ≠ (-1) → CM mX11_sortIn [.inr 73, .inl (σ 86 (((6 * x4) + x5)).toNat), .inl x3] σ (fun _ σ10 => ((inR (x3 + 1)) ∧ (((inR (x5 + 1)) ∧ (GO none mX11_floor 143 [some (.inr 73), some (.inl x1), some (.inl x2), some (.inl (x3 + 1)), some (.inl x4), some (.inl (x5 + 1))] [] σ10 Q)))))))))))))))) : GO none mX11_floor 143 [some (.inr 73), some (.inl x1), some (.inl x2), some (.inl x3), some (.inl x4), some (.inl x5)] [] σ Q := by
  refine g_iload dX11_floor_143 rfl ?_
  refine g_iload dX11_floor_145 rfl ?_
  refine g_icmp_ge (tgt := 194) dX11_floor_147 (by decide) (fun c1 => ?_) (fun c1 => ?_)
  · have h := h.1 c1
    obtain ⟨p2, h⟩ := h
    refine g_iinc (ls' := [some (.inr 73), some (.inl x1), some (.inl x2), some (.inl x3), some (.inl (x4 + 1)), some (.inl x5)]) dX11_floor_194 (by decide) rfl p2 rfl ?_
    refine g_goto (tgt := 131) dX11_floor_197 (by decide) ?_
    refine g_kill (i := 5) (ls' := [some (.inr 73), some (.inl x1), some (.inl x2), some (.inl x3), some (.inl (x4 + 1)), none]) rfl ?_
    exact h
  · have h := h.2 c1
    refine g_aload_n dX11_floor_150 rfl rfl ?_
    refine g_getR (r' := 86) flX11_51 (by decide) rfl (by decide) rfl dX11_floor_151 ?_
    refine g_bipush dX11_floor_154 (by decide) (by decide) ?_
    refine g_iload dX11_floor_156 rfl ?_
    obtain ⟨p3, h⟩ := h
    refine g_imul dX11_floor_158 p3 ?_
    refine g_iload dX11_floor_159 rfl ?_
    obtain ⟨p4, h⟩ := h
    refine g_iadd dX11_floor_161 p4 ?_
    obtain ⟨p5, h⟩ := h
    obtain ⟨p6, h⟩ := h
    refine g_iald (by decide) rfl p5 p6 dX11_floor_162 ?_
    refine g_iconst dX11_floor_163 (by decide) ?_
    refine g_icmp_eq (tgt := 188) dX11_floor_164 (by decide) (fun c7 => ?_) (fun c7 => ?_)
    · have h := h.1 c7
      obtain ⟨p8, h⟩ := h
      refine g_iinc (ls' := [some (.inr 73), some (.inl x1), some (.inl x2), some (.inl x3), some (.inl x4), some (.inl (x5 + 1))]) dX11_floor_188 (by decide) rfl p8 rfl ?_
      refine g_goto (tgt := 143) dX11_floor_191 (by decide) ?_
      exact h
    · have h := h.2 c7
      refine g_aload_n dX11_floor_167 rfl rfl ?_
      refine g_aload_n dX11_floor_168 rfl rfl ?_
      refine g_getR (r' := 86) flX11_51 (by decide) rfl (by decide) rfl dX11_floor_169 ?_
      refine g_bipush dX11_floor_172 (by decide) (by decide) ?_
      refine g_iload dX11_floor_174 rfl ?_
      refine g_imul dX11_floor_176 p3 ?_
      refine g_iload dX11_floor_177 rfl ?_
      refine g_iadd dX11_floor_179 p4 ?_
      refine g_iald (by decide) rfl p5 p6 dX11_floor_180 ?_
      refine g_iload_n dX11_floor_181 rfl rfl ?_
      refine g_invVV (as := [.inl (σ 86 (((6 * x4) + x5)).toNat), .inl x3]) (rest := []) okX11_sortIn mlX11_155 (by decide) rfl ⟨_, _, rfl⟩ rfl ⟨Nat.le_of_ble_eq_true rfl, Nat.le_of_ble_eq_true rfl⟩ (Nat.le_of_ble_eq_true rfl) rfl dX11_floor_182 h rfl (fun σ10 e11 => ?_)
      have h := e11
      obtain ⟨p12, h⟩ := h
      refine g_iinc (ls' := [some (.inr 73), some (.inl x1), some (.inl x2), some (.inl (x3 + 1)), some (.inl x4), some (.inl x5)]) dX11_floor_185 (by decide) rfl p12 rfl ?_
      obtain ⟨p13, h⟩ := h
      refine g_iinc (ls' := [some (.inr 73), some (.inl x1), some (.inl x2), some (.inl (x3 + 1)), some (.inl x4), some (.inl (x5 + 1))]) dX11_floor_188 (by decide) rfl p13 rfl ?_
      refine g_goto (tgt := 143) dX11_floor_191 (by decide) ?_
      exact h
set_option maxRecDepth 100000 in
theorem rX11_floor_206 {x1 x2 x3 x4 x5 : Int}  {σ : Mem} {Q : Int → Mem → Prop} (h : (x2 ≤ x5 → (x2 ≤ x3 → Q x4 σ) ∧ (x3 < x2 → Q (-1) σ)) ∧ (x5 < x2 → (x3 < x2 → (x2 ≤ x3 → Q x4 σ) ∧ (x3 < x2 → Q (-1) σ)) ∧ (x2 ≤ x3 → ((0 ≤ x5) ∧ (((x5 < 10) ∧ (((x5 < 15) ∧ (((inR ((σ 90 (x5).toNat) * (σ 89 (x5).toNat))) ∧ (((inR (x4 + ((σ 90 (x5).toNat) * (σ 89 (x5).toNat)))) ∧ (((inR (x5 + 1)) ∧ (GO none mX11_floor 206 [some (.inr 73), some (.inl x1), some (.inl x2), some (.inl x3), some (.inl (x4 + ((σ 90 (x5).toNat) * (σ 89 (x5).toNat)))), some (.inl (x5 + 1))] [] σ Q))))))))))))))) : GO none mX11_floor 206 [some (.inr 73), some (.inl x1), some (.inl x2), some (.inl x3), some (.inl x4), some (.inl x5)] [] σ Q := by
  refine g_iload dX11_floor_206 rfl ?_
  refine g_iload_n dX11_floor_208 rfl rfl ?_
  refine g_icmp_ge (tgt := 243) dX11_floor_209 (by decide) (fun c1 => ?_) (fun c1 => ?_)
  · have h := h.1 c1
    refine g_iload_n dX11_floor_243 rfl rfl ?_
    refine g_iload_n dX11_floor_244 rfl rfl ?_
    refine g_icmp_ge (tgt := 252) dX11_floor_245 (by decide) (fun c2 => ?_) (fun c2 => ?_)
    · have h := h.1 c2
      refine g_iload dX11_floor_252 rfl ?_
      exact g_ireturn rfl dX11_floor_254 h
    · have h := h.2 c2
      refine g_iconst dX11_floor_248 (by decide) ?_
      refine g_goto (tgt := 254) dX11_floor_249 (by decide) ?_
      exact g_ireturn rfl dX11_floor_254 h
  · have h := h.2 c1
    refine g_iload_n dX11_floor_212 rfl rfl ?_
    refine g_iload_n dX11_floor_213 rfl rfl ?_
    refine g_icmp_lt (tgt := 243) dX11_floor_214 (by decide) (fun c3 => ?_) (fun c3 => ?_)
    · have h := h.1 c3
      refine g_iload_n dX11_floor_243 rfl rfl ?_
      refine g_iload_n dX11_floor_244 rfl rfl ?_
      refine g_icmp_ge (tgt := 252) dX11_floor_245 (by decide) (fun c4 => ?_) (fun c4 => ?_)
      · have h := h.1 c4
        refine g_iload dX11_floor_252 rfl ?_
        exact g_ireturn rfl dX11_floor_254 h
      · have h := h.2 c4
        refine g_iconst dX11_floor_248 (by decide) ?_
        refine g_goto (tgt := 254) dX11_floor_249 (by decide) ?_
        exact g_ireturn rfl dX11_floor_254 h
    · have h := h.2 c3
      refine g_iload dX11_floor_217 rfl ?_
      refine g_aload_n dX11_floor_219 rfl rfl ?_
      refine g_getR (r' := 90) flX11_63 (by decide) rfl (by decide) rfl dX11_floor_220 ?_
      refine g_iload dX11_floor_223 rfl ?_
      obtain ⟨p5, h⟩ := h
      obtain ⟨p6, h⟩ := h
      refine g_iald (by decide) rfl p5 p6 dX11_floor_225 ?_
      refine g_aload_n dX11_floor_226 rfl rfl ?_
      refine g_getR (r' := 89) flX11_60 (by decide) rfl (by decide) rfl dX11_floor_227 ?_
      refine g_iload dX11_floor_230 rfl ?_
      obtain ⟨p7, h⟩ := h
      refine g_iald (by decide) rfl p5 p7 dX11_floor_232 ?_
      obtain ⟨p8, h⟩ := h
      refine g_imul dX11_floor_233 p8 ?_
      obtain ⟨p9, h⟩ := h
      refine g_iadd dX11_floor_234 p9 ?_
      refine g_istore (ls' := [some (.inr 73), some (.inl x1), some (.inl x2), some (.inl x3), some (.inl (x4 + ((σ 90 (x5).toNat) * (σ 89 (x5).toNat)))), some (.inl x5)]) dX11_floor_235 (by decide) rfl ?_
      obtain ⟨p10, h⟩ := h
      refine g_iinc (ls' := [some (.inr 73), some (.inl x1), some (.inl x2), some (.inl x3), some (.inl (x4 + ((σ 90 (x5).toNat) * (σ 89 (x5).toNat)))), some (.inl (x5 + 1))]) dX11_floor_237 (by decide) rfl p10 rfl ?_
      refine g_goto (tgt := 206) dX11_floor_240 (by decide) ?_
      exact h
theorem c_X11_sortIn {l : List Int} {x2 v : Int} {σ : Mem} (hl : l.length < 15) (hp : hldI σ 89 l) (hs : srt l) (ex : x2 = l.length) : CM mX11_sortIn [.inr 73, .inl v, .inl x2] σ (fun _ σ1 => ∃ l', hldI σ1 89 l' ∧ srt l' ∧ l'.Perm (v :: l) ∧ Same [89] σ σ1) := by
  subst ex
  have key : ∀ (i : Nat) (σ0 : Mem), i ≤ l.length → (∀ (j : Nat) (h : j < l.length), j < i → σ0 89 j = l[j]) → (∀ (j : Nat) (h : j < l.length), i ≤ j → σ0 89 (j + 1) = l[j]) → (∀ (j : Nat) (h : j < l.length), i ≤ j → v < l[j]) → Same [89] σ σ0 → GO none mX11_sortIn 2 [some (.inr 73), some (.inl v), some (.inl (l.length : Int)), some (.inl (i : Int))] [] σ0 (fun _ σ1 => ∃ l', hldI σ1 89 l' ∧ srt l' ∧ l'.Perm (v :: l) ∧ Same [89] σ σ1) := by
    intro i
    induction i with
    | zero =>
      intro σ0 hi h1 h2 h3 hS
      refine rX11_sortIn_2 ⟨fun _ => ⟨by omega, by omega, ?_⟩, fun h => by omega⟩
      exact ⟨insA l 0 v, insA_hld (by omega) h1 h2, insA_srt hs (by omega) (fun j h q => by omega) h3, insA_perm _ _ _, hS.tr (Same.mu (by simp))⟩
    | succ i ih =>
      intro σ0 hi h1 h2 h3 hS
      have e1 : (((i + 1 : Nat) : Int) - 1).toNat = i := by omega
      have e2 := h1 i (by omega) (by omega)
      refine rX11_sortIn_2 ⟨fun h => by omega, fun _ => ⟨by omega, by omega, by omega, ?_⟩⟩
      rw [e1, e2, Int.toNat_natCast]
      refine ⟨fun h => ⟨by omega, by omega, ?_⟩, fun h => ⟨by omega, by omega, by omega, ?_⟩⟩
      · refine ⟨insA l (i + 1) v, insA_hld hi h1 h2, insA_srt hs hi (fun j hj q => ?_) h3, insA_perm _ _ _, hS.tr (Same.mu (by simp))⟩
        by_cases e : j = i
        · subst e; exact h
        · have := List.pairwise_iff_getElem.mp hs j i hj (by omega) (by omega)
          omega
      · rw [show (((i + 1 : Nat) : Int) + (-1)) = (i : Int) by omega]
        refine ih _ (by omega) (fun j hj q => ?_) (fun j hj q => ?_) (fun j hj q => ?_) (hS.tr (Same.mu (by simp)))
        · rw [mu_atn (by omega)]
          exact h1 j hj (by omega)
        · by_cases e : j = i
          · subst e
            rw [mu_at, if_pos rfl]
          · rw [mu_atn (by omega)]
            exact h2 j hj (by omega)
        · by_cases e : j = i
          · subst e; exact h
          · exact h3 j hj (by omega)
  refine rX11_sortIn_0 ?_
  exact key l.length σ (Nat.le_refl _) (fun j h _ => hp j h) (fun j h q => by omega) (fun j h q => by omega) Same.rf
/-- pairs among so many -/
def tb : Nat → Nat
  | 0 => 0
  | a + 1 => tb a + a
theorem tb_mono : ∀ (d a : Nat), tb a ≤ tb (a + d)
  | 0, a => Nat.le_refl _
  | d + 1, a => by
    have := tb_mono d a
    show tb a ≤ tb (a + d) + (a + d)
    omega
theorem tb_le {a b : Nat} (h : a ≤ b) : tb a ≤ tb b := by
  have := tb_mono (b - a) a
  rw [show a + (b - a) = b by omega] at this
  exact this
def fG (D : Dt) (y : Nat) (x : Int) (a b : Nat) : Int := if ld D y a b + ld D y b a = x ∧ 0 < x then 1 else 0
def wG (D : Dt) (x : Int) (a b : Nat) : Int := if dW D a b = x ∧ x ≠ -1 then 1 else 0
theorem c_X11_floor {Z Z' : Zt} {σ : Mem} {y v : Int} (hZ : GZ Z) (hM : MI Z σ) (hN : nxA Z (aYr y (fun k v => FloorIs (zD Z) k v)) v Z') : CM mX11_floor [.inr 73, .inl y] σ (RQ σ v Z') := by
  obtain ⟨hA, rfl⟩ := hN
  refine rX11_floor_0 ⟨fun h => ?_, fun h => ⟨(hA.bad h).symm, hM, Same.rf⟩⟩
  obtain ⟨k, hk, rfl, e2⟩ := isY_nat h
  have hF := hA.get h e2
  refine CM.mono (fun _ σ1 hq => ?_) (c_X11_layFloor hZ hM)
  obtain ⟨hL1, hS1⟩ := hq
  have h5 := hZ.m5
  have hn6 := hZ.n6
  have tb5 : tb (dm (zD Z')) ≤ 10 := tb_le (b := 5) h5
  have tb6 : tb (dn (zD Z')) ≤ 15 := tb_le (b := 6) hn6
  have hw := hZ.wf
  -- the sum
  have p4 : ∀ (A B : List Int), A.length ≤ 10 → srt A → srt B → (∀ z ∈ A, 0 ≤ z ∧ z ≤ 198) → (∀ z ∈ B, 0 ≤ z ∧ z ≤ 36) → (∀ x, (A.count x : Int) = fCnt (zD Z') k x) → (∀ x, (B.count x : Int) = wCnt (zD Z') x) → ∀ (σ0 : Mem), hldI σ0 89 B → (∀ j, j < A.length → σ0 90 j = A.getD (A.length - 1 - j) 0) → Same [84, 85, 86, 87, 89, 90] σ σ0 → ∀ (d i : Nat), i + d = A.length → GO none mX11_floor 206 [some (.inr 73), some (.inl (k : Int)), some (.inl (A.length : Int)), some (.inl (B.length : Int)), some (.inl (if B.length < A.length then 0 else sumF (fun i => A.getD (A.length - 1 - i) 0 * B.getD i 0) i)), some (.inl (if B.length < A.length then 0 else (i : Int)))] [] σ0 (RQ σ v Z') := by
    intro A B hA10 hsA hsB hbA hbB hcA hcB σ0 hB h90 hS
    have fin : ∀ w, w = floorV A B → RQ σ v Z' w σ0 := fun w hw => RQ.stay hM (MSm.same hS (by decide)) (by decide) (by decide) (FloorIs.un ⟨A, B, hsA, hsB, hcA, hcB, hw⟩ hF)
    by_cases hlt : B.length < A.length
    · intro d i hd
      rw [if_pos hlt, if_pos hlt]
      have fl : floorV A B = -1 := if_pos hlt
      exact rX11_floor_206 ⟨fun _ => ⟨fun _ => by omega, fun _ => fin _ fl.symm⟩, fun _ => ⟨fun _ => ⟨fun _ => by omega, fun _ => fin _ fl.symm⟩, fun _ => by omega⟩⟩
    · have hsum : ∀ i, i ≤ A.length → 0 ≤ sumF (fun i => A.getD (A.length - 1 - i) 0 * B.getD i 0) i ∧ sumF (fun i => A.getD (A.length - 1 - i) 0 * B.getD i 0) i ≤ i * 7128 := fun i hi => by
        refine sumF_bd (fun j hj => ?_)
        have h1 := hbA _ (List.getElem_mem (l := A) (n := A.length - 1 - j) (by omega))
        have h2 := hbB _ (List.getElem_mem (l := B) (n := j) (by omega))
        rw [getDI (by omega), getDI (by omega)]
        exact ⟨Int.mul_nonneg h1.1 h2.1, (mul_bd h1.1 h1.2 (by omega) h2.2).2⟩
      intro d
      induction d with
      | zero =>
        intro i hd
        rw [if_neg hlt, if_neg hlt]
        have e : i = A.length := by omega
        subst e
        exact rX11_floor_206 ⟨fun _ => ⟨fun _ => fin _ (by unfold floorV; rw [if_neg hlt]), fun _ => by omega⟩, fun _ => by omega⟩
      | succ d ih =>
        intro i hd
        have := ih (i + 1) (by omega)
        rw [if_neg hlt, if_neg hlt] at this ⊢
        have s1 := hsum i (by omega)
        have s2 := hsum (i + 1) (by omega)
        have s3 : sumF (fun i => A.getD (A.length - 1 - i) 0 * B.getD i 0) (i + 1) = sumF (fun i => A.getD (A.length - 1 - i) 0 * B.getD i 0) i + A.getD (A.length - 1 - i) 0 * B.getD i 0 := rfl
        have eB : σ0 89 i = B.getD i 0 := by rw [getDI (by omega)]; exact hB i (by omega)
        refine rX11_floor_206 ⟨fun _ => by omega, fun _ => ⟨fun _ => by omega, fun _ => ?_⟩⟩
        rw [Int.toNat_natCast, h90 i (by omega), eB]
        refine ⟨by omega, by omega, by omega, by omega, by omega, by omega, ?_⟩
        rw [← s3]
        exact this
  -- the ways
  have p3 : ∀ (A : List Int), A.length ≤ 10 → srt A → (∀ z ∈ A, 0 ≤ z ∧ z ≤ 198) → (∀ x, (A.count x : Int) = fCnt (zD Z') k x) → ∀ (d a : Nat) (B : List Int) (σ0 : Mem), a + d = dn (zD Z') → B.length ≤ tb a → hldI σ0 89 B → srt B → (∀ z ∈ B, 0 ≤ z ∧ z ≤ 36) → (∀ x, (B.count x : Int) = tri (wG (zD Z') x) a) → (∀ j, j < A.length → σ0 90 j = A.getD (A.length - 1 - j) 0) → Same [84, 85, 86, 87, 89, 90] σ σ0 → ML Z' σ0 → GO none mX11_floor 131 [some (.inr 73), some (.inl (k : Int)), some (.inl (A.length : Int)), some (.inl (B.length : Int)), some (.inl (a : Int)), none] [] σ0 (RQ σ v Z') := by
    intro A hA10 hsA hbA hcA d
    induction d with
    | zero =>
      intro a B σ0 hd hl hp hs hb hc h90 hS hL
      have hn : σ0 73 2 = dn (zD Z') := by rw [hS 73 (by decide)]; exact hM.n
      refine rX11_floor_131 ⟨fun _ => ?_, fun h => by omega⟩
      have e : a = dn (zD Z') := by omega
      subst e
      have := p4 A B hA10 hsA hs hbA hb hcA hc σ0 hp h90 hS A.length 0 (by omega)
      rw [show (if B.length < A.length then (0 : Int) else sumF (fun i => A.getD (A.length - 1 - i) 0 * B.getD i 0) 0) = 0 by split <;> rfl, show (if B.length < A.length then (0 : Int) else ((0 : Nat) : Int)) = 0 by split <;> rfl] at this
      exact this
    | succ d ih =>
      intro a B σ0 hd hl hp hs hb hc h90 hS hL
      have hn : σ0 73 2 = dn (zD Z') := by rw [hS 73 (by decide)]; exact hM.n
      refine rX11_floor_131 ⟨fun h => by omega, fun _ => ?_⟩
      have tba : tb (a + 1) ≤ 15 := Nat.le_trans (tb_le (by omega)) tb6
      have tbs : tb (a + 1) = tb a + a := rfl
      have inner : ∀ (f b : Nat) (B2 : List Int) (σ2 : Mem), b + f = a → B2.length ≤ tb a + b → hldI σ2 89 B2 → srt B2 → (∀ z ∈ B2, 0 ≤ z ∧ z ≤ 36) → (∀ x, (B2.count x : Int) = tri (wG (zD Z') x) a + sumF (fun b => wG (zD Z') x b a) b) → (∀ j, j < A.length → σ2 90 j = A.getD (A.length - 1 - j) 0) → Same [84, 85, 86, 87, 89, 90] σ σ2 → ML Z' σ2 → GO none mX11_floor 143 [some (.inr 73), some (.inl (k : Int)), some (.inl (A.length : Int)), some (.inl (B2.length : Int)), some (.inl (a : Int)), some (.inl (b : Int))] [] σ2 (RQ σ v Z') := by
        intro f
        induction f with
        | zero =>
          intro b B2 σ2 hd2 hl2 hp2 hs2 hb2 hc2 h902 hS2 hL2
          have e : b = a := by omega
          subst e
          refine rX11_floor_143 ⟨fun _ => ⟨by omega, ih (b + 1) B2 σ2 (by omega) (by omega) hp2 hs2 hb2 (fun x => by rw [hc2 x, tri_succ]) h902 hS2 hL2⟩, fun h => by omega⟩
        | succ f ihf =>
          intro b B2 σ2 hd2 hl2 hp2 hs2 hb2 hc2 h902 hS2 hL2
          have hba : b < a := by omega
          have ha : a < dn (zD Z') := by omega
          have hbn : b < dn (zD Z') := by omega
          have b1 := hw.2.2.2.1 _ _ ha hbn
          have e86 : σ2 86 (6 * a + b) = dW (zD Z') a b := (hL2 a ha).1 b hbn
          refine rX11_floor_143 ⟨fun h => by omega, fun _ => ?_⟩
          rw [show (6 * (a : Int) + (b : Int)).toNat = 6 * a + b by omega, e86]
          refine ⟨by omega, by omega, by omega, by omega, fun h0 => ⟨by omega, ?_⟩, fun h0 => ?_⟩
          · refine ihf (b + 1) B2 σ2 (by omega) (by omega) hp2 hs2 hb2 (fun x => ?_) h902 hS2 hL2
            rw [hc2 x, sumF_succ]
            show _ = _ + (_ + (if dW (zD Z') b a = x ∧ x ≠ -1 then (1 : Int) else 0))
            rw [if_neg (by omega), Int.add_zero]
          · refine CM.mono (fun w σ9 hh => ?_) (c_X11_sortIn (l := B2) (v := dW (zD Z') a b) (by omega) hp2 hs2 rfl)
            obtain ⟨B3, q1, q2, q3, q4⟩ := hh
            have hl3 : B3.length = B2.length + 1 := by rw [q3.length_eq, List.length_cons]
            refine ⟨by omega, by omega, ?_⟩
            have := ihf (b + 1) B3 σ9 (by omega) (by omega) q1 q2 (fun z hz => ?_) (fun x => ?_) (fun j hj => by rw [q4 90 (by decide)]; exact h902 j hj) (hS2.tr (q4.wk (by decide))) (hL2.same q4 (by decide) (by decide))
            · rw [hl3] at this
              exact this
            · rcases List.mem_cons.mp ((q3.mem_iff).mp hz) with rfl | hz
              · omega
              · exact hb2 z hz
            · rw [cnt_cons q3, hc2 x, sumF_succ, ← Int.add_assoc]
              show _ + (if dW (zD Z') a b = x then (1 : Int) else 0) = _ + (if dW (zD Z') b a = x ∧ x ≠ -1 then (1 : Int) else 0)
              by_cases e : dW (zD Z') a b = x
              · rw [if_pos e, if_pos (by omega)]
              · rw [if_neg e, if_neg (by omega)]
      exact inner a 0 B σ0 (by omega) (by omega) hp hs hb (fun x => by rw [hc x]; simp [sumF]) h90 hS hL
  -- the heaviest first
  have p2 : ∀ (A : List Int), A.length ≤ 10 → srt A → (∀ z ∈ A, 0 ≤ z ∧ z ≤ 198) → (∀ x, (A.count x : Int) = fCnt (zD Z') k x) → ∀ (d i : Nat) (σ0 : Mem), i + d = A.length → hldI σ0 89 A → (∀ j, j < i → σ0 90 j = A.getD (A.length - 1 - j) 0) → Same [84, 85, 86, 87, 89, 90] σ σ0 → ML Z' σ0 → GO none mX11_floor 99 [some (.inr 73), some (.inl (k : Int)), some (.inl (A.length : Int)), some (.inl (i : Int)), none, none] [] σ0 (RQ σ v Z') := by
    intro A hA10 hsA hbA hcA d
    induction d with
    | zero =>
      intro i σ0 hd hp h90 hS hL
      refine rX11_floor_99 ⟨fun _ => ?_, fun h => by omega⟩
      exact p3 A hA10 hsA hbA hcA (dn (zD Z')) 0 [] σ0 (by omega) (Nat.zero_le _) (fun i h => by simp at h) List.Pairwise.nil (by simp) (fun x => by simp [tri, sumF]) (fun j hj => h90 j (by omega)) hS hL
    | succ d ih =>
      intro i σ0 hd hp h90 hS hL
      refine rX11_floor_99 ⟨fun h => by omega, fun _ => ?_⟩
      have e : ((A.length : Int) - 1 - (i : Int)).toNat = A.length - 1 - i := by omega
      rw [e, Int.toNat_natCast, hp (A.length - 1 - i) (by omega)]
      refine ⟨by omega, by omega, by omega, by omega, by omega, by omega, by omega, ?_⟩
      refine ih (i + 1) _ (by omega) (hp.cong (mu_nef (by decide))) (fun j hj => ?_) (hS.tr (Same.mu (by decide))) (hL.same (Same.mu (S := [90]) (by decide)) (by decide) (by decide))
      rw [mu_at]
      by_cases z : j = i
      · rw [if_pos z, z, getDI (by omega)]
      · rw [if_neg z]; exact h90 j (by omega)
  -- the loads
  have p1 : ∀ (d a : Nat) (A : List Int) (σ0 : Mem), a + d = dm (zD Z') → A.length ≤ tb a → hldI σ0 89 A → srt A → (∀ z ∈ A, 0 ≤ z ∧ z ≤ 198) → (∀ x, (A.count x : Int) = tri (fG (zD Z') k x) a) → Same [84, 85, 86, 87, 89, 90] σ σ0 → ML Z' σ0 → GO none mX11_floor 18 [some (.inr 73), some (.inl (k : Int)), some (.inl (A.length : Int)), some (.inl (a : Int)), none, none] [] σ0 (RQ σ v Z') := by
    intro d
    induction d with
    | zero =>
      intro a A σ0 hd hl hp hs hb hc hS hL
      have hm : σ0 73 5 = dm (zD Z') := by rw [hS 73 (by decide)]; exact hM.m
      have e : a = dm (zD Z') := by omega
      subst e
      exact rX11_floor_18 ⟨fun _ => p2 A (by omega) hs hb hc A.length 0 σ0 (by omega) hp (fun j h => by omega) hS hL, fun h => by omega⟩
    | succ d ih =>
      intro a A σ0 hd hl hp hs hb hc hS hL
      have hm : σ0 73 5 = dm (zD Z') := by rw [hS 73 (by decide)]; exact hM.m
      refine rX11_floor_18 ⟨fun h => by omega, fun _ => ?_⟩
      have tba : tb (a + 1) ≤ 10 := Nat.le_trans (tb_le (by omega)) tb5
      have tbs : tb (a + 1) = tb a + a := rfl
      have inner : ∀ (f b : Nat) (A2 : List Int) (σ2 : Mem), b + f = a → A2.length ≤ tb a + b → hldI σ2 89 A2 → srt A2 → (∀ z ∈ A2, 0 ≤ z ∧ z ≤ 198) → (∀ x, (A2.count x : Int) = tri (fG (zD Z') k x) a + sumF (fun b => fG (zD Z') k x b a) b) → Same [84, 85, 86, 87, 89, 90] σ σ2 → ML Z' σ2 → GO none mX11_floor 29 [some (.inr 73), some (.inl (k : Int)), some (.inl (A2.length : Int)), some (.inl (a : Int)), some (.inl (b : Int)), none] [] σ2 (RQ σ v Z') := by
        intro f
        induction f with
        | zero =>
          intro b A2 σ2 hd2 hl2 hp2 hs2 hb2 hc2 hS2 hL2
          have e : b = a := by omega
          subst e
          exact rX11_floor_29 ⟨fun _ => ⟨by omega, ih (b + 1) A2 σ2 (by omega) (by omega) hp2 hs2 hb2 (fun x => by rw [hc2 x, tri_succ]) hS2 hL2⟩, fun h => by omega⟩
        | succ f ihf =>
          intro b A2 σ2 hd2 hl2 hp2 hs2 hb2 hc2 hS2 hL2
          have hba : b < a := by omega
          have ha : a < dm (zD Z') := by omega
          have hbm : b < dm (zD Z') := by omega
          have l1 := ld_bd hw hk ha hbm
          have l2 := ld_bd hw hk hbm ha
          have e78 : σ2 78 = dL (zD Z') := by rw [hS2 78 (by decide)]; exact hM.l
          have s1 : σ2 78 (25 * k + 5 * a + b) = ld (zD Z') k a b := by rw [e78]; rfl
          have s2 : σ2 78 (25 * k + 5 * b + a) = ld (zD Z') k b a := by rw [e78]; rfl
          refine rX11_floor_29 ⟨fun h => by omega, fun _ => ?_⟩
          rw [show (25 * (k : Int) + 5 * (a : Int) + (b : Int)).toNat = 25 * k + 5 * a + b by omega, show (25 * (k : Int) + 5 * (b : Int) + (a : Int)).toNat = 25 * k + 5 * b + a by omega, s1, s2]
          refine ⟨by omega, by omega, by omega, by omega, by omega, by omega, by omega, by omega, by omega, by omega, by omega, by omega, fun h0 => ⟨by omega, ?_⟩, fun h0 => ?_⟩
          · refine ihf (b + 1) A2 σ2 (by omega) (by omega) hp2 hs2 hb2 (fun x => ?_) hS2 hL2
            rw [hc2 x, sumF_succ]
            show _ = _ + (_ + (if ld (zD Z') k b a + ld (zD Z') k a b = x ∧ 0 < x then (1 : Int) else 0))
            rw [if_neg (by omega), Int.add_zero]
          · refine CM.mono (fun w σ9 hh => ?_) (c_X11_sortIn (l := A2) (v := ld (zD Z') k a b + ld (zD Z') k b a) (by omega) hp2 hs2 rfl)
            obtain ⟨A3, q1, q2, q3, q4⟩ := hh
            have hl3 : A3.length = A2.length + 1 := by rw [q3.length_eq, List.length_cons]
            refine ⟨by omega, by omega, ?_⟩
            have := ihf (b + 1) A3 σ9 (by omega) (by omega) q1 q2 (fun z hz => ?_) (fun x => ?_) (hS2.tr (q4.wk (by decide))) (hL2.same q4 (by decide) (by decide))
            · rw [hl3] at this
              exact this
            · rcases List.mem_cons.mp ((q3.mem_iff).mp hz) with rfl | hz
              · omega
              · exact hb2 z hz
            · rw [cnt_cons q3, hc2 x, sumF_succ, ← Int.add_assoc]
              show _ + (if ld (zD Z') k a b + ld (zD Z') k b a = x then (1 : Int) else 0) = _ + (if ld (zD Z') k b a + ld (zD Z') k a b = x ∧ 0 < x then (1 : Int) else 0)
              by_cases e : ld (zD Z') k a b + ld (zD Z') k b a = x
              · rw [if_pos e, if_pos (by omega)]
              · rw [if_neg e, if_neg (by omega)]
      exact inner a 0 A σ0 (by omega) (by omega) hp hs hb (fun x => by rw [hc x]; simp [sumF]) hS hL
  exact p1 (dm (zD Z')) 0 [] σ1 (by omega) (Nat.zero_le _) (fun i h => by simp at h) List.Pairwise.nil (by simp) (fun x => by simp [tri, sumF]) (hS1.wk (by decide)) hL1
