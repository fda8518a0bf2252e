/-! ===== the reference: the best places, changes ===== -/
set_option maxRecDepth 100000 in
theorem rX11_bestOf_0 {x1 : Int}  {σ : Mem} {Q : Int → Mem → Prop} (h : CM mX11_layFloor [.inr 73] σ (fun _ σ2 => CM mX11_allNumbers [.inr 73] (mu (mu σ2 73 19 0) 73 20 (-1)) (fun v4 σ5 => GO none mX11_bestOf 25 [some (.inr 73), some (.inl x1), some (.inl 100000000), some (.inl v4), some (.inl 0), none] [] σ5 Q))) : CM mX11_bestOf [.inr 73, .inl x1] σ Q := by
  refine CM_of_GO (by decide +kernel) rfl (Nat.le_of_ble_eq_true rfl) ?_
  show GO none mX11_bestOf 0 [some (.inr 73), some (.inl x1), none, none, none, none] [] σ Q
  refine g_aload_n dX11_bestOf_0 rfl rfl ?_
  refine g_invVV (as := []) (rest := []) okX11_layFloor mlX11_104 (by decide) rfl ⟨_, _, rfl⟩ rfl ⟨Nat.le_of_ble_eq_true rfl, Nat.le_of_ble_eq_true rfl⟩ (Nat.le_of_ble_eq_true rfl) rfl dX11_bestOf_1 h rfl (fun σ2 e3 => ?_)
  have h := e3
  refine g_ldc (n := 100000000) dX11_bestOf_4 kcX11_138 (by decide) (by decide) ?_
  refine g_istore_n (ls' := [some (.inr 73), some (.inl x1), some (.inl 100000000), none, none, none]) dX11_bestOf_6 rfl (by decide) rfl ?_
  refine g_aload_n dX11_bestOf_7 rfl rfl ?_
  refine g_iconst dX11_bestOf_8 (by decide) ?_
  refine g_putI fpX11_143 (by decide) rfl (by decide) rfl (Or.inl rfl) dX11_bestOf_9 ?_
  refine g_aload_n dX11_bestOf_12 rfl rfl ?_
  refine g_iconst dX11_bestOf_13 (by decide) ?_
  refine g_putI fpX11_146 (by decide) rfl (by decide) rfl (Or.inl rfl) dX11_bestOf_14 ?_
  refine g_aload_n dX11_bestOf_17 rfl rfl ?_
  refine g_invVI (as := []) (rest := []) okX11_allNumbers mlX11_116 (by decide) rfl ⟨_, _, rfl⟩ rfl ⟨Nat.le_of_ble_eq_true rfl, Nat.le_of_ble_eq_true rfl⟩ (Nat.le_of_ble_eq_true rfl) rfl dX11_bestOf_18 h (Or.inl rfl) (fun v4 σ5 e6 => ?_)
  have h := e6
  refine g_istore_n (ls' := [some (.inr 73), some (.inl x1), some (.inl 100000000), some (.inl v4), none, none]) dX11_bestOf_21 rfl (by decide) rfl ?_
  refine g_iconst dX11_bestOf_22 (by decide) ?_
  refine g_istore (ls' := [some (.inr 73), some (.inl x1), some (.inl 100000000), some (.inl v4), some (.inl 0), none]) dX11_bestOf_23 (by decide) rfl ?_
  exact h
set_option maxRecDepth 100000 in
theorem rX11_bestOf_25 {x1 x2 x3 x4 : Int}  {σ : Mem} {Q : Int → Mem → Prop} (h : (x3 ≤ x4 → Q x2 σ) ∧ (x4 < x3 → CM mX11_layRow [.inr 73, .inl x4] σ (fun v2 σ3 => (v2 = 0 → (x2 ≤ 100000000 → ((inR ((σ3 73 19) + 0)) ∧ (((inR (x4 + 1)) ∧ (GO none mX11_bestOf 25 [some (.inr 73), some (.inl x1), some (.inl x2), some (.inl x3), some (.inl (x4 + 1)), none] [] (mu σ3 73 19 ((σ3 73 19) + 0)) Q))))) ∧ (100000000 < x2 → ((inR (x4 + 1)) ∧ (GO none mX11_bestOf 25 [some (.inr 73), some (.inl x1), some (.inl 100000000), some (.inl x3), some (.inl (x4 + 1)), none] [] (mu (mu (mu σ3 73 19 0) 73 20 x4) 73 19 ((0 : Int) + 0)) Q)))) ∧ (v2 ≠ 0 → CM mX11_costOf [.inr 73, .inl x1] σ3 (fun v10 σ11 => (x2 ≤ v10 → (100000000 ≤ v10 → ((inR ((σ11 73 19) + 0)) ∧ (((inR (x4 + 1)) ∧ (GO none mX11_bestOf 25 [some (.inr 73), some (.inl x1), some (.inl x2), some (.inl x3), some (.inl (x4 + 1)), none] [] (mu σ11 73 19 ((σ11 73 19) + 0)) Q))))) ∧ (v10 < 100000000 → (v10 ≠ x2 → ((inR ((σ11 73 19) + 0)) ∧ (((inR (x4 + 1)) ∧ (GO none mX11_bestOf 25 [some (.inr 73), some (.inl x1), some (.inl x2), some (.inl x3), some (.inl (x4 + 1)), none] [] (mu σ11 73 19 ((σ11 73 19) + 0)) Q))))) ∧ (v10 = x2 → ((inR ((σ11 73 19) + 1)) ∧ (((inR (x4 + 1)) ∧ (GO none mX11_bestOf 25 [some (.inr 73), some (.inl x1), some (.inl x2), some (.inl x3), some (.inl (x4 + 1)), none] [] (mu σ11 73 19 ((σ11 73 19) + 1)) Q))))))) ∧ (v10 < x2 → (100000000 ≤ v10 → ((inR (x4 + 1)) ∧ (GO none mX11_bestOf 25 [some (.inr 73), some (.inl x1), some (.inl v10), some (.inl x3), some (.inl (x4 + 1)), none] [] (mu (mu (mu σ11 73 19 0) 73 20 x4) 73 19 ((0 : Int) + 0)) Q))) ∧ (v10 < 100000000 → (v10 ≠ v10 → ((inR (x4 + 1)) ∧ (GO none mX11_bestOf 25 [some (.inr 73), some (.inl x1), some (.inl v10), some (.inl x3), some (.inl (x4 + 1)), none] [] (mu (mu (mu σ11 73 19 0) 73 20 x4) 73 19 ((0 : Int) + 0)) Q))) ∧ (v10 = v10 → ((inR (x4 + 1)) ∧ (GO none mX11_bestOf 25 [some (.inr 73), some (.inl x1), some (.inl v10), some (.inl x3), some (.inl (x4 + 1)), none] [] (mu (mu (mu σ11 73 19 0) 73 20 x4) 73 19 ((0 : Int) + 1)) Q)))))))))) : GO none mX11_bestOf 25 [some (.inr 73), some (.inl x1), some (.inl x2), some (.inl x3), some (.inl x4), none] [] σ Q := by
  refine g_iload dX11_bestOf_25 rfl ?_
  refine g_iload_n dX11_bestOf_27 rfl rfl ?_
  refine g_icmp_ge (tgt := 105) dX11_bestOf_28 (by decide) (fun c1 => ?_) (fun c1 => ?_)
  · have h := h.1 c1
    refine g_iload_n dX11_bestOf_105 rfl rfl ?_
    exact g_ireturn rfl dX11_bestOf_106 h
  · have h := h.2 c1
    refine g_aload_n dX11_bestOf_31 rfl rfl ?_
    refine g_iload dX11_bestOf_32 rfl ?_
    refine g_invVI (as := [.inl x4]) (rest := []) okX11_layRow mlX11_149 (by decide) rfl ⟨_, _, rfl⟩ rfl ⟨Nat.le_of_ble_eq_true rfl, Nat.le_of_ble_eq_true rfl⟩ (Nat.le_of_ble_eq_true rfl) rfl dX11_bestOf_34 h (Or.inr rfl) (fun v2 σ3 e4 => ?_)
    have h := e4
    refine g_if_eq (tgt := 48) dX11_bestOf_37 (by decide) (fun c5 => ?_) (fun c5 => ?_)
    · have h := h.1 c5
      refine g_ldc (n := 100000000) dX11_bestOf_48 kcX11_138 (by decide) (by decide) ?_
      refine g_istore (ls' := [some (.inr 73), some (.inl x1), some (.inl x2), some (.inl x3), some (.inl x4), some (.inl 100000000)]) dX11_bestOf_50 (by decide) rfl ?_
      refine g_iload dX11_bestOf_52 rfl ?_
      refine g_iload_n dX11_bestOf_54 rfl rfl ?_
      refine g_icmp_ge (tgt := 72) dX11_bestOf_55 (by decide) (fun c6 => ?_) (fun c6 => ?_)
      · have h := h.1 c6
        refine g_aload_n dX11_bestOf_72 rfl rfl ?_
        refine g_dup dX11_bestOf_73 ?_
        refine g_getI flX11_143 (by decide) rfl (by decide) rfl dX11_bestOf_74 ?_
        refine g_iload dX11_bestOf_77 rfl ?_
        refine g_ldc (n := 100000000) dX11_bestOf_79 kcX11_138 (by decide) (by decide) ?_
        refine g_icmp_ge (tgt := 94) dX11_bestOf_81 (by decide) (fun _ => ?_) (fun c9 => absurd c9 (by decide))
        refine g_iconst dX11_bestOf_94 (by decide) ?_
        obtain ⟨p7, h⟩ := h
        refine g_iadd dX11_bestOf_95 p7 ?_
        refine g_putI fpX11_143 (by decide) rfl (by decide) rfl (Or.inl rfl) dX11_bestOf_96 ?_
        obtain ⟨p8, h⟩ := h
        refine g_iinc (ls' := [some (.inr 73), some (.inl x1), some (.inl x2), some (.inl x3), some (.inl (x4 + 1)), some (.inl 100000000)]) dX11_bestOf_99 (by decide) rfl p8 rfl ?_
        refine g_goto (tgt := 25) dX11_bestOf_102 (by decide) ?_
        refine g_kill (i := 5) (ls' := [some (.inr 73), some (.inl x1), some (.inl x2), some (.inl x3), some (.inl (x4 + 1)), none]) rfl ?_
        exact h
      · have h := h.2 c6
        refine g_iload dX11_bestOf_58 rfl ?_
        refine g_istore_n (ls' := [some (.inr 73), some (.inl x1), some (.inl 100000000), some (.inl x3), some (.inl x4), some (.inl 100000000)]) dX11_bestOf_60 rfl (by decide) rfl ?_
        refine g_aload_n dX11_bestOf_61 rfl rfl ?_
        refine g_iconst dX11_bestOf_62 (by decide) ?_
        refine g_putI fpX11_143 (by decide) rfl (by decide) rfl (Or.inl rfl) dX11_bestOf_63 ?_
        refine g_aload_n dX11_bestOf_66 rfl rfl ?_
        refine g_iload dX11_bestOf_67 rfl ?_
        refine g_putI fpX11_146 (by decide) rfl (by decide) rfl (Or.inl rfl) dX11_bestOf_69 ?_
        refine g_aload_n dX11_bestOf_72 rfl rfl ?_
        refine g_dup dX11_bestOf_73 ?_
        refine g_getI flX11_143 (by decide) rfl (by decide) rfl dX11_bestOf_74 ?_
        refine g_top (w := 0) rfl ?_
        refine g_iload dX11_bestOf_77 rfl ?_
        refine g_ldc (n := 100000000) dX11_bestOf_79 kcX11_138 (by decide) (by decide) ?_
        refine g_icmp_ge (tgt := 94) dX11_bestOf_81 (by decide) (fun _ => ?_) (fun c9 => absurd c9 (by decide))
        refine g_iconst dX11_bestOf_94 (by decide) ?_
        refine g_iadd dX11_bestOf_95 (by decide) ?_
        refine g_putI fpX11_143 (by decide) rfl (by decide) rfl (Or.inl rfl) dX11_bestOf_96 ?_
        obtain ⟨p9, h⟩ := h
        refine g_iinc (ls' := [some (.inr 73), some (.inl x1), some (.inl 100000000), some (.inl x3), some (.inl (x4 + 1)), some (.inl 100000000)]) dX11_bestOf_99 (by decide) rfl p9 rfl ?_
        refine g_goto (tgt := 25) dX11_bestOf_102 (by decide) ?_
        refine g_kill (i := 5) (ls' := [some (.inr 73), some (.inl x1), some (.inl 100000000), some (.inl x3), some (.inl (x4 + 1)), none]) rfl ?_
        exact h
    · have h := h.2 c5
      refine g_aload_n dX11_bestOf_40 rfl rfl ?_
      refine g_iload_n dX11_bestOf_41 rfl rfl ?_
      refine g_invVI (as := [.inl x1]) (rest := []) okX11_costOf mlX11_139 (by decide) rfl ⟨_, _, rfl⟩ rfl ⟨Nat.le_of_ble_eq_true rfl, Nat.le_of_ble_eq_true rfl⟩ (Nat.le_of_ble_eq_true rfl) rfl dX11_bestOf_42 h (Or.inl rfl) (fun v10 σ11 e12 => ?_)
      have h := e12
      refine g_goto (tgt := 50) dX11_bestOf_45 (by decide) ?_
      refine g_istore (ls' := [some (.inr 73), some (.inl x1), some (.inl x2), some (.inl x3), some (.inl x4), some (.inl v10)]) dX11_bestOf_50 (by decide) rfl ?_
      refine g_iload dX11_bestOf_52 rfl ?_
      refine g_iload_n dX11_bestOf_54 rfl rfl ?_
      refine g_icmp_ge (tgt := 72) dX11_bestOf_55 (by decide) (fun c13 => ?_) (fun c13 => ?_)
      · have h := h.1 c13
        refine g_aload_n dX11_bestOf_72 rfl rfl ?_
        refine g_dup dX11_bestOf_73 ?_
        refine g_getI flX11_143 (by decide) rfl (by decide) rfl dX11_bestOf_74 ?_
        refine g_iload dX11_bestOf_77 rfl ?_
        refine g_ldc (n := 100000000) dX11_bestOf_79 kcX11_138 (by decide) (by decide) ?_
        refine g_icmp_ge (tgt := 94) dX11_bestOf_81 (by decide) (fun c14 => ?_) (fun c14 => ?_)
        · have h := h.1 c14
          refine g_iconst dX11_bestOf_94 (by decide) ?_
          obtain ⟨p15, h⟩ := h
          refine g_iadd dX11_bestOf_95 p15 ?_
          refine g_putI fpX11_143 (by decide) rfl (by decide) rfl (Or.inl rfl) dX11_bestOf_96 ?_
          obtain ⟨p16, h⟩ := h
          refine g_iinc (ls' := [some (.inr 73), some (.inl x1), some (.inl x2), some (.inl x3), some (.inl (x4 + 1)), some (.inl v10)]) dX11_bestOf_99 (by decide) rfl p16 rfl ?_
          refine g_goto (tgt := 25) dX11_bestOf_102 (by decide) ?_
          refine g_kill (i := 5) (ls' := [some (.inr 73), some (.inl x1), some (.inl x2), some (.inl x3), some (.inl (x4 + 1)), none]) rfl ?_
          exact h
        · have h := h.2 c14
          refine g_iload dX11_bestOf_84 rfl ?_
          refine g_iload_n dX11_bestOf_86 rfl rfl ?_
          refine g_icmp_ne (tgt := 94) dX11_bestOf_87 (by decide) (fun c17 => ?_) (fun c17 => ?_)
          · have h := h.1 c17
            refine g_iconst dX11_bestOf_94 (by decide) ?_
            obtain ⟨p18, h⟩ := h
            refine g_iadd dX11_bestOf_95 p18 ?_
            refine g_putI fpX11_143 (by decide) rfl (by decide) rfl (Or.inl rfl) dX11_bestOf_96 ?_
            obtain ⟨p19, h⟩ := h
            refine g_iinc (ls' := [some (.inr 73), some (.inl x1), some (.inl x2), some (.inl x3), some (.inl (x4 + 1)), some (.inl v10)]) dX11_bestOf_99 (by decide) rfl p19 rfl ?_
            refine g_goto (tgt := 25) dX11_bestOf_102 (by decide) ?_
            refine g_kill (i := 5) (ls' := [some (.inr 73), some (.inl x1), some (.inl x2), some (.inl x3), some (.inl (x4 + 1)), none]) rfl ?_
            exact h
          · have h := h.2 c17
            refine g_iconst dX11_bestOf_90 (by decide) ?_
            refine g_goto (tgt := 95) dX11_bestOf_91 (by decide) ?_
            obtain ⟨p20, h⟩ := h
            refine g_iadd dX11_bestOf_95 p20 ?_
            refine g_putI fpX11_143 (by decide) rfl (by decide) rfl (Or.inl rfl) dX11_bestOf_96 ?_
            obtain ⟨p21, h⟩ := h
            refine g_iinc (ls' := [some (.inr 73), some (.inl x1), some (.inl x2), some (.inl x3), some (.inl (x4 + 1)), some (.inl v10)]) dX11_bestOf_99 (by decide) rfl p21 rfl ?_
            refine g_goto (tgt := 25) dX11_bestOf_102 (by decide) ?_
            refine g_kill (i := 5) (ls' := [some (.inr 73), some (.inl x1), some (.inl x2), some (.inl x3), some (.inl (x4 + 1)), none]) rfl ?_
            exact h
      · have h := h.2 c13
        refine g_iload dX11_bestOf_58 rfl ?_
        refine g_istore_n (ls' := [some (.inr 73), some (.inl x1), some (.inl v10), some (.inl x3), some (.inl x4), some (.inl v10)]) dX11_bestOf_60 rfl (by decide) rfl ?_
        refine g_aload_n dX11_bestOf_61 rfl rfl ?_
        refine g_iconst dX11_bestOf_62 (by decide) ?_
        refine g_putI fpX11_143 (by decide) rfl (by decide) rfl (Or.inl rfl) dX11_bestOf_63 ?_
        refine g_aload_n dX11_bestOf_66 rfl rfl ?_
        refine g_iload dX11_bestOf_67 rfl ?_
        refine g_putI fpX11_146 (by decide) rfl (by decide) rfl (Or.inl rfl) dX11_bestOf_69 ?_
        refine g_aload_n dX11_bestOf_72 rfl rfl ?_
        refine g_dup dX11_bestOf_73 ?_
        refine g_getI flX11_143 (by decide) rfl (by decide) rfl dX11_bestOf_74 ?_
        refine g_top (w := 0) rfl ?_
        refine g_iload dX11_bestOf_77 rfl ?_
        refine g_ldc (n := 100000000) dX11_bestOf_79 kcX11_138 (by decide) (by decide) ?_
        refine g_icmp_ge (tgt := 94) dX11_bestOf_81 (by decide) (fun c22 => ?_) (fun c22 => ?_)
        · have h := h.1 c22
          refine g_iconst dX11_bestOf_94 (by decide) ?_
          refine g_iadd dX11_bestOf_95 (by decide) ?_
          refine g_putI fpX11_143 (by decide) rfl (by decide) rfl (Or.inl rfl) dX11_bestOf_96 ?_
          obtain ⟨p23, h⟩ := h
          refine g_iinc (ls' := [some (.inr 73), some (.inl x1), some (.inl v10), some (.inl x3), some (.inl (x4 + 1)), some (.inl v10)]) dX11_bestOf_99 (by decide) rfl p23 rfl ?_
          refine g_goto (tgt := 25) dX11_bestOf_102 (by decide) ?_
          refine g_kill (i := 5) (ls' := [some (.inr 73), some (.inl x1), some (.inl v10), some (.inl x3), some (.inl (x4 + 1)), none]) rfl ?_
          exact h
        · have h := h.2 c22
          refine g_iload dX11_bestOf_84 rfl ?_
          refine g_iload_n dX11_bestOf_86 rfl rfl ?_
          refine g_icmp_ne (tgt := 94) dX11_bestOf_87 (by decide) (fun c24 => ?_) (fun c24 => ?_)
          · have h := h.1 c24
            refine g_iconst dX11_bestOf_94 (by decide) ?_
            refine g_iadd dX11_bestOf_95 (by decide) ?_
            refine g_putI fpX11_143 (by decide) rfl (by decide) rfl (Or.inl rfl) dX11_bestOf_96 ?_
            obtain ⟨p25, h⟩ := h
            refine g_iinc (ls' := [some (.inr 73), some (.inl x1), some (.inl v10), some (.inl x3), some (.inl (x4 + 1)), some (.inl v10)]) dX11_bestOf_99 (by decide) rfl p25 rfl ?_
            refine g_goto (tgt := 25) dX11_bestOf_102 (by decide) ?_
            refine g_kill (i := 5) (ls' := [some (.inr 73), some (.inl x1), some (.inl v10), some (.inl x3), some (.inl (x4 + 1)), none]) rfl ?_
            exact h
          · have h := h.2 c24
            refine g_iconst dX11_bestOf_90 (by decide) ?_
            refine g_goto (tgt := 95) dX11_bestOf_91 (by decide) ?_
            refine g_iadd dX11_bestOf_95 (by decide) ?_
            refine g_putI fpX11_143 (by decide) rfl (by decide) rfl (Or.inl rfl) dX11_bestOf_96 ?_
            obtain ⟨p26, h⟩ := h
            refine g_iinc (ls' := [some (.inr 73), some (.inl x1), some (.inl v10), some (.inl x3), some (.inl (x4 + 1)), some (.inl v10)]) dX11_bestOf_99 (by decide) rfl p26 rfl ?_
            refine g_goto (tgt := 25) dX11_bestOf_102 (by decide) ?_
            refine g_kill (i := 5) (ls' := [some (.inr 73), some (.inl x1), some (.inl v10), some (.inl x3), some (.inl (x4 + 1)), none]) rfl ?_
            exact h
set_option maxRecDepth 100000 in
theorem rX11_best_0 {x1 : Int}  {σ : Mem} {Q : Int → Mem → Prop} (h : (0 ≤ x1 ∧ x1 < 4 → CM mX11_bestOf [.inr 73, .inl x1] σ (fun v5 σ6 => (v5 ≠ 100000000 → Q v5 σ6) ∧ (v5 = 100000000 → Q (-1) σ6))) ∧ (¬ (0 ≤ x1 ∧ x1 < 4) → Q (-2) σ)) : CM mX11_best [.inr 73, .inl x1] σ Q := by
  refine CM_of_GO (by decide +kernel) rfl (Nat.le_of_ble_eq_true rfl) ?_
  show GO none mX11_best 0 [some (.inr 73), some (.inl x1), none] [] σ Q
  refine g_iload_n dX11_best_0 rfl rfl ?_
  refine g_invSI (as := [.inl x1]) (rest := []) okX11_isYear rfl mlX11_107 rfl ⟨Nat.le_of_ble_eq_true rfl, Nat.le_of_ble_eq_true rfl⟩ (Nat.le_of_ble_eq_true rfl) rfl dX11_best_1 (c_X11_isYear) (Or.inr rfl) (fun v1 σ2 e3 => ?_)
  obtain ⟨e3a, e3b⟩ := e3; subst v1; subst σ2
  refine g_if_ne (tgt := 10) dX11_best_4 (by decide) (fun c4 => ?_) (fun c4 => ?_)
  · have h := h.1 (ite_yes c4)
    refine g_aload_n dX11_best_10 rfl rfl ?_
    refine g_iload_n dX11_best_11 rfl rfl ?_
    refine g_invVI (as := [.inl x1]) (rest := []) okX11_bestOf mlX11_152 (by decide) rfl ⟨_, _, rfl⟩ rfl ⟨Nat.le_of_ble_eq_true rfl, Nat.le_of_ble_eq_true rfl⟩ (Nat.le_of_ble_eq_true rfl) rfl dX11_best_12 h (Or.inl rfl) (fun v5 σ6 e7 => ?_)
    have h := e7
    refine g_istore_n (ls' := [some (.inr 73), some (.inl x1), some (.inl v5)]) dX11_best_15 rfl (by decide) rfl ?_
    refine g_iload_n dX11_best_16 rfl rfl ?_
    refine g_ldc (n := 100000000) dX11_best_17 kcX11_138 (by decide) (by decide) ?_
    refine g_icmp_ne (tgt := 26) dX11_best_19 (by decide) (fun c8 => ?_) (fun c8 => ?_)
    · have h := h.1 c8
      refine g_iload_n dX11_best_26 rfl rfl ?_
      exact g_ireturn rfl dX11_best_27 h
    · have h := h.2 c8
      refine g_iconst dX11_best_22 (by decide) ?_
      refine g_goto (tgt := 27) dX11_best_23 (by decide) ?_
      exact g_ireturn rfl dX11_best_27 h
  · have h := h.2 (ite_no c4)
    refine g_bipush dX11_best_7 (by decide) (by decide) ?_
    exact g_ireturn rfl dX11_best_9 h
set_option maxRecDepth 100000 in
theorem rX11_many_0 {x1 : Int}  {σ : Mem} {Q : Int → Mem → Prop} (h : (0 ≤ x1 ∧ x1 < 4 → CM mX11_bestOf [.inr 73, .inl x1] σ (fun v5 σ6 => Q (σ6 73 19) σ6)) ∧ (¬ (0 ≤ x1 ∧ x1 < 4) → Q (-2) σ)) : CM mX11_many [.inr 73, .inl x1] σ Q := by
  refine CM_of_GO (by decide +kernel) rfl (Nat.le_of_ble_eq_true rfl) ?_
  show GO none mX11_many 0 [some (.inr 73), some (.inl x1)] [] σ Q
  refine g_iload_n dX11_many_0 rfl rfl ?_
  refine g_invSI (as := [.inl x1]) (rest := []) okX11_isYear rfl mlX11_107 rfl ⟨Nat.le_of_ble_eq_true rfl, Nat.le_of_ble_eq_true rfl⟩ (Nat.le_of_ble_eq_true rfl) rfl dX11_many_1 (c_X11_isYear) (Or.inr rfl) (fun v1 σ2 e3 => ?_)
  obtain ⟨e3a, e3b⟩ := e3; subst v1; subst σ2
  refine g_if_ne (tgt := 10) dX11_many_4 (by decide) (fun c4 => ?_) (fun c4 => ?_)
  · have h := h.1 (ite_yes c4)
    refine g_aload_n dX11_many_10 rfl rfl ?_
    refine g_iload_n dX11_many_11 rfl rfl ?_
    refine g_invVI (as := [.inl x1]) (rest := []) okX11_bestOf mlX11_152 (by decide) rfl ⟨_, _, rfl⟩ rfl ⟨Nat.le_of_ble_eq_true rfl, Nat.le_of_ble_eq_true rfl⟩ (Nat.le_of_ble_eq_true rfl) rfl dX11_many_12 h (Or.inl rfl) (fun v5 σ6 e7 => ?_)
    have h := e7
    refine g_pop dX11_many_15 ?_
    refine g_aload_n dX11_many_16 rfl rfl ?_
    refine g_getI flX11_143 (by decide) rfl (by decide) rfl dX11_many_17 ?_
    exact g_ireturn rfl dX11_many_20 h
  · have h := h.2 (ite_no c4)
    refine g_bipush dX11_many_7 (by decide) (by decide) ?_
    exact g_ireturn rfl dX11_many_9 h
set_option maxRecDepth 100000 in
theorem rX11_take_0 {x1 : Int}  {σ : Mem} {Q : Int → Mem → Prop} (h : (0 ≤ x1 ∧ x1 < 4 → CM mX11_bestOf [.inr 73, .inl x1] σ (fun v5 σ6 => (v5 ≠ 100000000 → CM mX11_layRow [.inr 73, .inl (σ6 73 20)] σ6 (fun v9 σ10 => CM mX11_becomeNow [.inr 73] σ10 (fun _ σ13 => Q v5 σ13))) ∧ (v5 = 100000000 → Q (-3) σ6))) ∧ (¬ (0 ≤ x1 ∧ x1 < 4) → Q (-2) σ)) : CM mX11_take [.inr 73, .inl x1] σ Q := by
  refine CM_of_GO (by decide +kernel) rfl (Nat.le_of_ble_eq_true rfl) ?_
  show GO none mX11_take 0 [some (.inr 73), some (.inl x1), none] [] σ Q
  refine g_iload_n dX11_take_0 rfl rfl ?_
  refine g_invSI (as := [.inl x1]) (rest := []) okX11_isYear rfl mlX11_107 rfl ⟨Nat.le_of_ble_eq_true rfl, Nat.le_of_ble_eq_true rfl⟩ (Nat.le_of_ble_eq_true rfl) rfl dX11_take_1 (c_X11_isYear) (Or.inr rfl) (fun v1 σ2 e3 => ?_)
  obtain ⟨e3a, e3b⟩ := e3; subst v1; subst σ2
  refine g_if_ne (tgt := 10) dX11_take_4 (by decide) (fun c4 => ?_) (fun c4 => ?_)
  · have h := h.1 (ite_yes c4)
    refine g_aload_n dX11_take_10 rfl rfl ?_
    refine g_iload_n dX11_take_11 rfl rfl ?_
    refine g_invVI (as := [.inl x1]) (rest := []) okX11_bestOf mlX11_152 (by decide) rfl ⟨_, _, rfl⟩ rfl ⟨Nat.le_of_ble_eq_true rfl, Nat.le_of_ble_eq_true rfl⟩ (Nat.le_of_ble_eq_true rfl) rfl dX11_take_12 h (Or.inl rfl) (fun v5 σ6 e7 => ?_)
    have h := e7
    refine g_istore_n (ls' := [some (.inr 73), some (.inl x1), some (.inl v5)]) dX11_take_15 rfl (by decide) rfl ?_
    refine g_iload_n dX11_take_16 rfl rfl ?_
    refine g_ldc (n := 100000000) dX11_take_17 kcX11_138 (by decide) (by decide) ?_
    refine g_icmp_ne (tgt := 25) dX11_take_19 (by decide) (fun c8 => ?_) (fun c8 => ?_)
    · have h := h.1 c8
      refine g_aload_n dX11_take_25 rfl rfl ?_
      refine g_aload_n dX11_take_26 rfl rfl ?_
      refine g_getI flX11_146 (by decide) rfl (by decide) rfl dX11_take_27 ?_
      refine g_invVI (as := [.inl (σ6 73 20)]) (rest := []) okX11_layRow mlX11_149 (by decide) rfl ⟨_, _, rfl⟩ rfl ⟨Nat.le_of_ble_eq_true rfl, Nat.le_of_ble_eq_true rfl⟩ (Nat.le_of_ble_eq_true rfl) rfl dX11_take_30 h (Or.inr rfl) (fun v9 σ10 e11 => ?_)
      have h := e11
      refine g_pop dX11_take_33 ?_
      refine g_aload_n dX11_take_34 rfl rfl ?_
      refine g_invVV (as := []) (rest := []) okX11_becomeNow mlX11_123 (by decide) rfl ⟨_, _, rfl⟩ rfl ⟨Nat.le_of_ble_eq_true rfl, Nat.le_of_ble_eq_true rfl⟩ (Nat.le_of_ble_eq_true rfl) rfl dX11_take_35 h rfl (fun σ13 e14 => ?_)
      have h := e14
      refine g_iload_n dX11_take_38 rfl rfl ?_
      exact g_ireturn rfl dX11_take_39 h
    · have h := h.2 c8
      refine g_bipush dX11_take_22 (by decide) (by decide) ?_
      exact g_ireturn rfl dX11_take_24 h
  · have h := h.2 (ite_no c4)
    refine g_bipush dX11_take_7 (by decide) (by decide) ?_
    exact g_ireturn rfl dX11_take_9 h
set_option maxRecDepth 100000 in
theorem rX11_look_0 {x1 : Int}  {σ : Mem} {Q : Int → Mem → Prop} (h : CM mX11_costOf [.inr 73, .inl x1] σ (fun v1 σ2 => CM mX11_numberOf [.inr 73] σ2 (fun v4 σ5 => (v1 < (σ5 73 23) → Q 0 (mu (mu σ5 73 23 v1) 73 24 v4)) ∧ ((σ5 73 23) ≤ v1 → (v1 ≠ (σ5 73 23) → Q 0 σ5) ∧ (v1 = (σ5 73 23) → (100000000 ≤ v1 → Q 0 σ5) ∧ (v1 < 100000000 → ((σ5 73 24) = (-1) → Q 0 σ5) ∧ ((σ5 73 24) ≠ (-1) → ((σ5 73 24) ≤ v4 → Q 0 σ5) ∧ (v4 < (σ5 73 24) → Q 0 (mu (mu σ5 73 23 v1) 73 24 v4))))))))) : CM mX11_look [.inr 73, .inl x1] σ Q := by
  refine CM_of_GO (by decide +kernel) rfl (Nat.le_of_ble_eq_true rfl) ?_
  show GO none mX11_look 0 [some (.inr 73), some (.inl x1), none, none] [] σ Q
  refine g_aload_n dX11_look_0 rfl rfl ?_
  refine g_iload_n dX11_look_1 rfl rfl ?_
  refine g_invVI (as := [.inl x1]) (rest := []) okX11_costOf mlX11_139 (by decide) rfl ⟨_, _, rfl⟩ rfl ⟨Nat.le_of_ble_eq_true rfl, Nat.le_of_ble_eq_true rfl⟩ (Nat.le_of_ble_eq_true rfl) rfl dX11_look_2 h (Or.inl rfl) (fun v1 σ2 e3 => ?_)
  have h := e3
  refine g_istore_n (ls' := [some (.inr 73), some (.inl x1), some (.inl v1), none]) dX11_look_5 rfl (by decide) rfl ?_
  refine g_aload_n dX11_look_6 rfl rfl ?_
  refine g_invVI (as := []) (rest := []) okX11_numberOf mlX11_159 (by decide) rfl ⟨_, _, rfl⟩ rfl ⟨Nat.le_of_ble_eq_true rfl, Nat.le_of_ble_eq_true rfl⟩ (Nat.le_of_ble_eq_true rfl) rfl dX11_look_7 h (Or.inl rfl) (fun v4 σ5 e6 => ?_)
  have h := e6
  refine g_istore_n (ls' := [some (.inr 73), some (.inl x1), some (.inl v1), some (.inl v4)]) dX11_look_10 rfl (by decide) rfl ?_
  refine g_iload_n dX11_look_11 rfl rfl ?_
  refine g_aload_n dX11_look_12 rfl rfl ?_
  refine g_getI flX11_162 (by decide) rfl (by decide) rfl dX11_look_13 ?_
  refine g_icmp_lt (tgt := 49) dX11_look_16 (by decide) (fun c7 => ?_) (fun c7 => ?_)
  · have h := h.1 c7
    refine g_aload_n dX11_look_49 rfl rfl ?_
    refine g_iload_n dX11_look_50 rfl rfl ?_
    refine g_putI fpX11_162 (by decide) rfl (by decide) rfl (Or.inl rfl) dX11_look_51 ?_
    refine g_aload_n dX11_look_54 rfl rfl ?_
    refine g_iload_n dX11_look_55 rfl rfl ?_
    refine g_putI fpX11_165 (by decide) rfl (by decide) rfl (Or.inl rfl) dX11_look_56 ?_
    exact g_return rfl dX11_look_59 h
  · have h := h.2 c7
    refine g_iload_n dX11_look_19 rfl rfl ?_
    refine g_aload_n dX11_look_20 rfl rfl ?_
    refine g_getI flX11_162 (by decide) rfl (by decide) rfl dX11_look_21 ?_
    refine g_icmp_ne (tgt := 59) dX11_look_24 (by decide) (fun c8 => ?_) (fun c8 => ?_)
    · have h := h.1 c8
      exact g_return rfl dX11_look_59 h
    · have h := h.2 c8
      refine g_iload_n dX11_look_27 rfl rfl ?_
      refine g_ldc (n := 100000000) dX11_look_28 kcX11_138 (by decide) (by decide) ?_
      refine g_icmp_ge (tgt := 59) dX11_look_30 (by decide) (fun c9 => ?_) (fun c9 => ?_)
      · have h := h.1 c9
        exact g_return rfl dX11_look_59 h
      · have h := h.2 c9
        refine g_aload_n dX11_look_33 rfl rfl ?_
        refine g_getI flX11_165 (by decide) rfl (by decide) rfl dX11_look_34 ?_
        refine g_iconst dX11_look_37 (by decide) ?_
        refine g_icmp_eq (tgt := 59) dX11_look_38 (by decide) (fun c10 => ?_) (fun c10 => ?_)
        · have h := h.1 c10
          exact g_return rfl dX11_look_59 h
        · have h := h.2 c10
          refine g_iload_n dX11_look_41 rfl rfl ?_
          refine g_aload_n dX11_look_42 rfl rfl ?_
          refine g_getI flX11_165 (by decide) rfl (by decide) rfl dX11_look_43 ?_
          refine g_icmp_ge (tgt := 59) dX11_look_46 (by decide) (fun c11 => ?_) (fun c11 => ?_)
          · have h := h.1 c11
            exact g_return rfl dX11_look_59 h
          · have h := h.2 c11
            refine g_aload_n dX11_look_49 rfl rfl ?_
            refine g_iload_n dX11_look_50 rfl rfl ?_
            refine g_putI fpX11_162 (by decide) rfl (by decide) rfl (Or.inl rfl) dX11_look_51 ?_
            refine g_aload_n dX11_look_54 rfl rfl ?_
            refine g_iload_n dX11_look_55 rfl rfl ?_
            refine g_putI fpX11_165 (by decide) rfl (by decide) rfl (Or.inl rfl) dX11_look_56 ?_
            exact g_return rfl dX11_look_59 h
set_option maxRecDepth 100000 in
theorem rX11_findChange_0 {x1 : Int}  {σ : Mem} {Q : Int → Mem → Prop} (h : CM mX11_takeNow [.inr 73] σ (fun _ σ2 => CM mX11_costOf [.inr 73, .inl x1] σ2 (fun v4 σ5 => GO none mX11_findChange 20 [some (.inr 73), some (.inl x1), some (.inl 0), none, none, none] [] (mu (mu σ5 73 23 v4) 73 24 (-1)) Q))) : CM mX11_findChange [.inr 73, .inl x1] σ Q := by
  refine CM_of_GO (by decide +kernel) rfl (Nat.le_of_ble_eq_true rfl) ?_
  show GO none mX11_findChange 0 [some (.inr 73), some (.inl x1), none, none, none, none] [] σ Q
  refine g_aload_n dX11_findChange_0 rfl rfl ?_
  refine g_invVV (as := []) (rest := []) okX11_takeNow mlX11_126 (by decide) rfl ⟨_, _, rfl⟩ rfl ⟨Nat.le_of_ble_eq_true rfl, Nat.le_of_ble_eq_true rfl⟩ (Nat.le_of_ble_eq_true rfl) rfl dX11_findChange_1 h rfl (fun σ2 e3 => ?_)
  have h := e3
  refine g_aload_n dX11_findChange_4 rfl rfl ?_
  refine g_aload_n dX11_findChange_5 rfl rfl ?_
  refine g_iload_n dX11_findChange_6 rfl rfl ?_
  refine g_invVI (as := [.inl x1]) (rest := [.inr 73]) okX11_costOf mlX11_139 (by decide) rfl ⟨_, _, rfl⟩ rfl ⟨Nat.le_of_ble_eq_true rfl, Nat.le_of_ble_eq_true rfl⟩ (Nat.le_of_ble_eq_true rfl) rfl dX11_findChange_7 h (Or.inl rfl) (fun v4 σ5 e6 => ?_)
  have h := e6
  refine g_putI fpX11_162 (by decide) rfl (by decide) rfl (Or.inl rfl) dX11_findChange_10 ?_
  refine g_aload_n dX11_findChange_13 rfl rfl ?_
  refine g_iconst dX11_findChange_14 (by decide) ?_
  refine g_putI fpX11_165 (by decide) rfl (by decide) rfl (Or.inl rfl) dX11_findChange_15 ?_
  refine g_iconst dX11_findChange_18 (by decide) ?_
  refine g_istore_n (ls' := [some (.inr 73), some (.inl x1), some (.inl 0), none, none, none]) dX11_findChange_19 rfl (by decide) rfl ?_
  exact h
set_option maxRecDepth 100000 in
theorem rX11_findChange_20 {x1 x2 : Int}  {σ : Mem} {Q : Int → Mem → Prop} (h : ((σ 73 5) ≤ x2 → Q 0 σ) ∧ (x2 < (σ 73 5) → GO none mX11_findChange 30 [some (.inr 73), some (.inl x1), some (.inl x2), some (.inl 0), none, none] [] σ Q)) : GO none mX11_findChange 20 [some (.inr 73), some (.inl x1), some (.inl x2), none, none, none] [] σ Q := by
  refine g_iload_n dX11_findChange_20 rfl rfl ?_
  refine g_aload_n dX11_findChange_21 rfl rfl ?_
  refine g_getI flX11_85 (by decide) rfl (by decide) rfl dX11_findChange_22 ?_
  refine g_icmp_ge (tgt := 132) dX11_findChange_25 (by decide) (fun c1 => ?_) (fun c1 => ?_)
  · have h := h.1 c1
    exact g_return rfl dX11_findChange_132 h
  · have h := h.2 c1
    refine g_iconst dX11_findChange_28 (by decide) ?_
    refine g_istore_n (ls' := [some (.inr 73), some (.inl x1), some (.inl x2), some (.inl 0), none, none]) dX11_findChange_29 rfl (by decide) rfl ?_
    exact h
set_option maxRecDepth 100000 in
theorem rX11_findChange_30 {x1 x2 x3 : Int}  {σ : Mem} {Q : Int → Mem → Prop} (h : ((σ 73 2) ≤ x3 → ((inR (x2 + 1)) ∧ (GO none mX11_findChange 20 [some (.inr 73), some (.inl x1), some (.inl (x2 + 1)), none, none, none] [] σ Q))) ∧ (x3 < (σ 73 2) → CM mX11_takeNow [.inr 73] σ (fun _ σ4 => GO none mX11_findChange 48 [some (.inr 73), some (.inl x1), some (.inl x2), some (.inl x3), some (.inl (-1)), some (.inl 0)] [] σ4 Q))) : GO none mX11_findChange 30 [some (.inr 73), some (.inl x1), some (.inl x2), some (.inl x3), none, none] [] σ Q := by
  refine g_iload_n dX11_findChange_30 rfl rfl ?_
  refine g_aload_n dX11_findChange_31 rfl rfl ?_
  refine g_getI flX11_82 (by decide) rfl (by decide) rfl dX11_findChange_32 ?_
  refine g_icmp_ge (tgt := 126) dX11_findChange_35 (by decide) (fun c1 => ?_) (fun c1 => ?_)
  · have h := h.1 c1
    obtain ⟨p2, h⟩ := h
    refine g_iinc (ls' := [some (.inr 73), some (.inl x1), some (.inl (x2 + 1)), some (.inl x3), none, none]) dX11_findChange_126 (by decide) rfl p2 rfl ?_
    refine g_goto (tgt := 20) dX11_findChange_129 (by decide) ?_
    refine g_kill (i := 3) (ls' := [some (.inr 73), some (.inl x1), some (.inl (x2 + 1)), none, none, none]) rfl ?_
    exact h
  · have h := h.2 c1
    refine g_aload_n dX11_findChange_38 rfl rfl ?_
    refine g_invVV (as := []) (rest := []) okX11_takeNow mlX11_126 (by decide) rfl ⟨_, _, rfl⟩ rfl ⟨Nat.le_of_ble_eq_true rfl, Nat.le_of_ble_eq_true rfl⟩ (Nat.le_of_ble_eq_true rfl) rfl dX11_findChange_39 h rfl (fun σ4 e5 => ?_)
    have h := e5
    refine g_iconst dX11_findChange_42 (by decide) ?_
    refine g_istore (ls' := [some (.inr 73), some (.inl x1), some (.inl x2), some (.inl x3), some (.inl (-1)), none]) dX11_findChange_43 (by decide) rfl ?_
    refine g_iconst dX11_findChange_45 (by decide) ?_
    refine g_istore (ls' := [some (.inr 73), some (.inl x1), some (.inl x2), some (.inl x3), some (.inl (-1)), some (.inl 0)]) dX11_findChange_46 (by decide) rfl ?_
    exact h
set_option maxRecDepth 100000 in
theorem rX11_findChange_48 {x1 x2 x3 x4 x5 : Int}  {σ : Mem} {Q : Int → Mem → Prop} (h : ((σ 73 5) ≤ x5 → (x4 = x2 → ((inR (x3 + 1)) ∧ (GO none mX11_findChange 30 [some (.inr 73), some (.inl x1), some (.inl x2), some (.inl (x3 + 1)), none, none] [] σ Q))) ∧ (x4 ≠ x2 → (x4 = (-1) → ((0 ≤ x2) ∧ (((x2 < 5) ∧ (CM mX11_look [.inr 73, .inl x1] (mu σ 88 (x2).toNat x3) (fun _ σ8 => ((inR (x3 + 1)) ∧ (GO none mX11_findChange 30 [some (.inr 73), some (.inl x1), some (.inl x2), some (.inl (x3 + 1)), none, none] [] σ8 Q)))))))) ∧ (x4 ≠ (-1) → ((0 ≤ x2) ∧ (((x2 < 5) ∧ (((0 ≤ x4) ∧ (((x4 < 5) ∧ (CM mX11_look [.inr 73, .inl x1] (mu (mu σ 88 (x4).toNat (σ 88 (x2).toNat)) 88 (x2).toNat x3) (fun _ σ16 => ((inR (x3 + 1)) ∧ (GO none mX11_findChange 30 [some (.inr 73), some (.inl x1), some (.inl x2), some (.inl (x3 + 1)), none, none] [] σ16 Q)))))))))))))) ∧ (x5 < (σ 73 5) → ((0 ≤ x5) ∧ (((x5 < 5) ∧ (((σ 88 (x5).toNat) ≠ x3 → ((inR (x5 + 1)) ∧ (GO none mX11_findChange 48 [some (.inr 73), some (.inl x1), some (.inl x2), some (.inl x3), some (.inl x4), some (.inl (x5 + 1))] [] σ Q))) ∧ ((σ 88 (x5).toNat) = x3 → ((inR (x5 + 1)) ∧ (GO none mX11_findChange 48 [some (.inr 73), some (.inl x1), some (.inl x2), some (.inl x3), some (.inl x5), some (.inl (x5 + 1))] [] σ Q))))))))) : GO none mX11_findChange 48 [some (.inr 73), some (.inl x1), some (.inl x2), some (.inl x3), some (.inl x4), some (.inl x5)] [] σ Q := by
  refine g_iload dX11_findChange_48 rfl ?_
  refine g_aload_n dX11_findChange_50 rfl rfl ?_
  refine g_getI flX11_85 (by decide) rfl (by decide) rfl dX11_findChange_51 ?_
  refine g_icmp_ge (tgt := 83) dX11_findChange_54 (by decide) (fun c1 => ?_) (fun c1 => ?_)
  · have h := h.1 c1
    refine g_iload dX11_findChange_83 rfl ?_
    refine g_iload_n dX11_findChange_85 rfl rfl ?_
    refine g_icmp_eq (tgt := 120) dX11_findChange_86 (by decide) (fun c2 => ?_) (fun c2 => ?_)
    · have h := h.1 c2
      obtain ⟨p3, h⟩ := h
      refine g_iinc (ls' := [some (.inr 73), some (.inl x1), some (.inl x2), some (.inl (x3 + 1)), some (.inl x4), some (.inl x5)]) dX11_findChange_120 (by decide) rfl p3 rfl ?_
      refine g_goto (tgt := 30) dX11_findChange_123 (by decide) ?_
      refine g_kill (i := 4) (ls' := [some (.inr 73), some (.inl x1), some (.inl x2), some (.inl (x3 + 1)), none, some (.inl x5)]) rfl ?_
      refine g_kill (i := 5) (ls' := [some (.inr 73), some (.inl x1), some (.inl x2), some (.inl (x3 + 1)), none, none]) rfl ?_
      exact h
    · have h := h.2 c2
      refine g_iload dX11_findChange_89 rfl ?_
      refine g_iconst dX11_findChange_91 (by decide) ?_
      refine g_icmp_eq (tgt := 108) dX11_findChange_92 (by decide) (fun c4 => ?_) (fun c4 => ?_)
      · have h := h.1 c4
        refine g_aload_n dX11_findChange_108 rfl rfl ?_
        refine g_getR (r' := 88) flX11_57 (by decide) rfl (by decide) rfl dX11_findChange_109 ?_
        refine g_iload_n dX11_findChange_112 rfl rfl ?_
        refine g_iload_n dX11_findChange_113 rfl rfl ?_
        obtain ⟨p5, h⟩ := h
        obtain ⟨p6, h⟩ := h
        refine g_iast (by decide) rfl p5 p6 dX11_findChange_114 ?_
        refine g_aload_n dX11_findChange_115 rfl rfl ?_
        refine g_iload_n dX11_findChange_116 rfl rfl ?_
        refine g_invVV (as := [.inl x1]) (rest := []) okX11_look mlX11_168 (by decide) rfl ⟨_, _, rfl⟩ rfl ⟨Nat.le_of_ble_eq_true rfl, Nat.le_of_ble_eq_true rfl⟩ (Nat.le_of_ble_eq_true rfl) rfl dX11_findChange_117 h rfl (fun σ8 e9 => ?_)
        have h := e9
        obtain ⟨p10, h⟩ := h
        refine g_iinc (ls' := [some (.inr 73), some (.inl x1), some (.inl x2), some (.inl (x3 + 1)), some (.inl x4), some (.inl x5)]) dX11_findChange_120 (by decide) rfl p10 rfl ?_
        refine g_goto (tgt := 30) dX11_findChange_123 (by decide) ?_
        refine g_kill (i := 4) (ls' := [some (.inr 73), some (.inl x1), some (.inl x2), some (.inl (x3 + 1)), none, some (.inl x5)]) rfl ?_
        refine g_kill (i := 5) (ls' := [some (.inr 73), some (.inl x1), some (.inl x2), some (.inl (x3 + 1)), none, none]) rfl ?_
        exact h
      · have h := h.2 c4
        refine g_aload_n dX11_findChange_95 rfl rfl ?_
        refine g_getR (r' := 88) flX11_57 (by decide) rfl (by decide) rfl dX11_findChange_96 ?_
        refine g_iload dX11_findChange_99 rfl ?_
        refine g_aload_n dX11_findChange_101 rfl rfl ?_
        refine g_getR (r' := 88) flX11_57 (by decide) rfl (by decide) rfl dX11_findChange_102 ?_
        refine g_iload_n dX11_findChange_105 rfl rfl ?_
        obtain ⟨p11, h⟩ := h
        obtain ⟨p12, h⟩ := h
        refine g_iald (by decide) rfl p11 p12 dX11_findChange_106 ?_
        obtain ⟨p13, h⟩ := h
        obtain ⟨p14, h⟩ := h
        refine g_iast (by decide) rfl p13 p14 dX11_findChange_107 ?_
        refine g_aload_n dX11_findChange_108 rfl rfl ?_
        refine g_getR (r' := 88) flX11_57 (by decide) rfl (by decide) rfl dX11_findChange_109 ?_
        refine g_iload_n dX11_findChange_112 rfl rfl ?_
        refine g_iload_n dX11_findChange_113 rfl rfl ?_
        refine g_iast (by decide) rfl p11 p12 dX11_findChange_114 ?_
        refine g_aload_n dX11_findChange_115 rfl rfl ?_
        refine g_iload_n dX11_findChange_116 rfl rfl ?_
        refine g_invVV (as := [.inl x1]) (rest := []) okX11_look mlX11_168 (by decide) rfl ⟨_, _, rfl⟩ rfl ⟨Nat.le_of_ble_eq_true rfl, Nat.le_of_ble_eq_true rfl⟩ (Nat.le_of_ble_eq_true rfl) rfl dX11_findChange_117 h rfl (fun σ16 e17 => ?_)
        have h := e17
        obtain ⟨p18, h⟩ := h
        refine g_iinc (ls' := [some (.inr 73), some (.inl x1), some (.inl x2), some (.inl (x3 + 1)), some (.inl x4), some (.inl x5)]) dX11_findChange_120 (by decide) rfl p18 rfl ?_
        refine g_goto (tgt := 30) dX11_findChange_123 (by decide) ?_
        refine g_kill (i := 4) (ls' := [some (.inr 73), some (.inl x1), some (.inl x2), some (.inl (x3 + 1)), none, some (.inl x5)]) rfl ?_
        refine g_kill (i := 5) (ls' := [some (.inr 73), some (.inl x1), some (.inl x2), some (.inl (x3 + 1)), none, none]) rfl ?_
        exact h
  · have h := h.2 c1
    refine g_aload_n dX11_findChange_57 rfl rfl ?_
    refine g_getR (r' := 88) flX11_57 (by decide) rfl (by decide) rfl dX11_findChange_58 ?_
    refine g_iload dX11_findChange_61 rfl ?_
    obtain ⟨p19, h⟩ := h
    obtain ⟨p20, h⟩ := h
    refine g_iald (by decide) rfl p19 p20 dX11_findChange_63 ?_
    refine g_iload_n dX11_findChange_64 rfl rfl ?_
    refine g_icmp_ne (tgt := 73) dX11_findChange_65 (by decide) (fun c21 => ?_) (fun c21 => ?_)
    · have h := h.1 c21
      refine g_iload dX11_findChange_73 rfl ?_
      refine g_istore (ls' := [some (.inr 73), some (.inl x1), some (.inl x2), some (.inl x3), some (.inl x4), some (.inl x5)]) dX11_findChange_75 (by decide) rfl ?_
      obtain ⟨p22, h⟩ := h
      refine g_iinc (ls' := [some (.inr 73), some (.inl x1), some (.inl x2), some (.inl x3), some (.inl x4), some (.inl (x5 + 1))]) dX11_findChange_77 (by decide) rfl p22 rfl ?_
      refine g_goto (tgt := 48) dX11_findChange_80 (by decide) ?_
      exact h
    · have h := h.2 c21
      refine g_iload dX11_findChange_68 rfl ?_
      refine g_goto (tgt := 75) dX11_findChange_70 (by decide) ?_
      refine g_istore (ls' := [some (.inr 73), some (.inl x1), some (.inl x2), some (.inl x3), some (.inl x5), some (.inl x5)]) dX11_findChange_75 (by decide) rfl ?_
      obtain ⟨p23, h⟩ := h
      refine g_iinc (ls' := [some (.inr 73), some (.inl x1), some (.inl x2), some (.inl x3), some (.inl x5), some (.inl (x5 + 1))]) dX11_findChange_77 (by decide) rfl p23 rfl ?_
      refine g_goto (tgt := 48) dX11_findChange_80 (by decide) ?_
      exact h
set_option maxRecDepth 100000 in
theorem rX11_settled_0 {x1 : Int}  {σ : Mem} {Q : Int → Mem → Prop} (h : (0 ≤ x1 ∧ x1 < 4 → CM mX11_layFloor [.inr 73] σ (fun _ σ6 => CM mX11_takeNow [.inr 73] σ6 (fun _ σ9 => CM mX11_costOf [.inr 73, .inl x1] σ9 (fun v11 σ12 => (v11 ≠ 100000000 → CM mX11_findChange [.inr 73, .inl x1] σ12 (fun _ σ16 => ((σ16 73 24) ≠ (-1) → Q 0 σ16) ∧ ((σ16 73 24) = (-1) → Q 1 σ16))) ∧ (v11 = 100000000 → Q 0 σ12))))) ∧ (¬ (0 ≤ x1 ∧ x1 < 4) → Q (-2) σ)) : CM mX11_settled [.inr 73, .inl x1] σ Q := by
  refine CM_of_GO (by decide +kernel) rfl (Nat.le_of_ble_eq_true rfl) ?_
  show GO none mX11_settled 0 [some (.inr 73), some (.inl x1)] [] σ Q
  refine g_iload_n dX11_settled_0 rfl rfl ?_
  refine g_invSI (as := [.inl x1]) (rest := []) okX11_isYear rfl mlX11_107 rfl ⟨Nat.le_of_ble_eq_true rfl, Nat.le_of_ble_eq_true rfl⟩ (Nat.le_of_ble_eq_true rfl) rfl dX11_settled_1 (c_X11_isYear) (Or.inr rfl) (fun v1 σ2 e3 => ?_)
  obtain ⟨e3a, e3b⟩ := e3; subst v1; subst σ2
  refine g_if_ne (tgt := 10) dX11_settled_4 (by decide) (fun c4 => ?_) (fun c4 => ?_)
  · have h := h.1 (ite_yes c4)
    refine g_aload_n dX11_settled_10 rfl rfl ?_
    refine g_invVV (as := []) (rest := []) okX11_layFloor mlX11_104 (by decide) rfl ⟨_, _, rfl⟩ rfl ⟨Nat.le_of_ble_eq_true rfl, Nat.le_of_ble_eq_true rfl⟩ (Nat.le_of_ble_eq_true rfl) rfl dX11_settled_11 h rfl (fun σ6 e7 => ?_)
    have h := e7
    refine g_aload_n dX11_settled_14 rfl rfl ?_
    refine g_invVV (as := []) (rest := []) okX11_takeNow mlX11_126 (by decide) rfl ⟨_, _, rfl⟩ rfl ⟨Nat.le_of_ble_eq_true rfl, Nat.le_of_ble_eq_true rfl⟩ (Nat.le_of_ble_eq_true rfl) rfl dX11_settled_15 h rfl (fun σ9 e10 => ?_)
    have h := e10
    refine g_aload_n dX11_settled_18 rfl rfl ?_
    refine g_iload_n dX11_settled_19 rfl rfl ?_
    refine g_invVI (as := [.inl x1]) (rest := []) okX11_costOf mlX11_139 (by decide) rfl ⟨_, _, rfl⟩ rfl ⟨Nat.le_of_ble_eq_true rfl, Nat.le_of_ble_eq_true rfl⟩ (Nat.le_of_ble_eq_true rfl) rfl dX11_settled_20 h (Or.inl rfl) (fun v11 σ12 e13 => ?_)
    have h := e13
    refine g_ldc (n := 100000000) dX11_settled_23 kcX11_138 (by decide) (by decide) ?_
    refine g_icmp_ne (tgt := 30) dX11_settled_25 (by decide) (fun c14 => ?_) (fun c14 => ?_)
    · have h := h.1 c14
      refine g_aload_n dX11_settled_30 rfl rfl ?_
      refine g_iload_n dX11_settled_31 rfl rfl ?_
      refine g_invVV (as := [.inl x1]) (rest := []) okX11_findChange mlX11_171 (by decide) rfl ⟨_, _, rfl⟩ rfl ⟨Nat.le_of_ble_eq_true rfl, Nat.le_of_ble_eq_true rfl⟩ (Nat.le_of_ble_eq_true rfl) rfl dX11_settled_32 h rfl (fun σ16 e17 => ?_)
      have h := e17
      refine g_aload_n dX11_settled_35 rfl rfl ?_
      refine g_getI flX11_165 (by decide) rfl (by decide) rfl dX11_settled_36 ?_
      refine g_iconst dX11_settled_39 (by decide) ?_
      refine g_icmp_ne (tgt := 47) dX11_settled_40 (by decide) (fun c18 => ?_) (fun c18 => ?_)
      · have h := h.1 c18
        refine g_iconst dX11_settled_47 (by decide) ?_
        exact g_ireturn rfl dX11_settled_48 h
      · have h := h.2 c18
        refine g_iconst dX11_settled_43 (by decide) ?_
        refine g_goto (tgt := 48) dX11_settled_44 (by decide) ?_
        exact g_ireturn rfl dX11_settled_48 h
    · have h := h.2 c14
      refine g_iconst dX11_settled_28 (by decide) ?_
      exact g_ireturn rfl dX11_settled_29 h
  · have h := h.2 (ite_no c4)
    refine g_bipush dX11_settled_7 (by decide) (by decide) ?_
    exact g_ireturn rfl dX11_settled_9 h
set_option maxRecDepth 100000 in
theorem rX11_climb_0 {x1 : Int}  {σ : Mem} {Q : Int → Mem → Prop} (h : (0 ≤ x1 ∧ x1 < 4 → CM mX11_layFloor [.inr 73] σ (fun _ σ6 => CM mX11_findChange [.inr 73, .inl x1] σ6 (fun _ σ9 => GO none mX11_climb 21 [some (.inr 73), some (.inl x1), some (.inl 0)] [] σ9 Q))) ∧ (¬ (0 ≤ x1 ∧ x1 < 4) → Q (-2) σ)) : CM mX11_climb [.inr 73, .inl x1] σ Q := by
  refine CM_of_GO (by decide +kernel) rfl (Nat.le_of_ble_eq_true rfl) ?_
  show GO none mX11_climb 0 [some (.inr 73), some (.inl x1), none] [] σ Q
  refine g_iload_n dX11_climb_0 rfl rfl ?_
  refine g_invSI (as := [.inl x1]) (rest := []) okX11_isYear rfl mlX11_107 rfl ⟨Nat.le_of_ble_eq_true rfl, Nat.le_of_ble_eq_true rfl⟩ (Nat.le_of_ble_eq_true rfl) rfl dX11_climb_1 (c_X11_isYear) (Or.inr rfl) (fun v1 σ2 e3 => ?_)
  obtain ⟨e3a, e3b⟩ := e3; subst v1; subst σ2
  refine g_if_ne (tgt := 10) dX11_climb_4 (by decide) (fun c4 => ?_) (fun c4 => ?_)
  · have h := h.1 (ite_yes c4)
    refine g_aload_n dX11_climb_10 rfl rfl ?_
    refine g_invVV (as := []) (rest := []) okX11_layFloor mlX11_104 (by decide) rfl ⟨_, _, rfl⟩ rfl ⟨Nat.le_of_ble_eq_true rfl, Nat.le_of_ble_eq_true rfl⟩ (Nat.le_of_ble_eq_true rfl) rfl dX11_climb_11 h rfl (fun σ6 e7 => ?_)
    have h := e7
    refine g_iconst dX11_climb_14 (by decide) ?_
    refine g_istore_n (ls' := [some (.inr 73), some (.inl x1), some (.inl 0)]) dX11_climb_15 rfl (by decide) rfl ?_
    refine g_aload_n dX11_climb_16 rfl rfl ?_
    refine g_iload_n dX11_climb_17 rfl rfl ?_
    refine g_invVV (as := [.inl x1]) (rest := []) okX11_findChange mlX11_171 (by decide) rfl ⟨_, _, rfl⟩ rfl ⟨Nat.le_of_ble_eq_true rfl, Nat.le_of_ble_eq_true rfl⟩ (Nat.le_of_ble_eq_true rfl) rfl dX11_climb_18 h rfl (fun σ9 e10 => ?_)
    have h := e10
    exact h
  · have h := h.2 (ite_no c4)
    refine g_bipush dX11_climb_7 (by decide) (by decide) ?_
    exact g_ireturn rfl dX11_climb_9 h
set_option maxRecDepth 100000 in
theorem rX11_climb_21 {x1 x2 : Int}  {σ : Mem} {Q : Int → Mem → Prop} (h : ((σ 73 24) = (-1) → Q x2 σ) ∧ ((σ 73 24) ≠ (-1) → CM mX11_layRow [.inr 73, .inl (σ 73 24)] σ (fun v2 σ3 => CM mX11_becomeNow [.inr 73] σ3 (fun _ σ6 => ((inR (x2 + 1)) ∧ (CM mX11_findChange [.inr 73, .inl x1] σ6 (fun _ σ10 => GO none mX11_climb 21 [some (.inr 73), some (.inl x1), some (.inl (x2 + 1))] [] σ10 Q))))))) : GO none mX11_climb 21 [some (.inr 73), some (.inl x1), some (.inl x2)] [] σ Q := by
  refine g_aload_n dX11_climb_21 rfl rfl ?_
  refine g_getI flX11_165 (by decide) rfl (by decide) rfl dX11_climb_22 ?_
  refine g_iconst dX11_climb_25 (by decide) ?_
  refine g_icmp_eq (tgt := 53) dX11_climb_26 (by decide) (fun c1 => ?_) (fun c1 => ?_)
  · have h := h.1 c1
    refine g_iload_n dX11_climb_53 rfl rfl ?_
    exact g_ireturn rfl dX11_climb_54 h
  · have h := h.2 c1
    refine g_aload_n dX11_climb_29 rfl rfl ?_
    refine g_aload_n dX11_climb_30 rfl rfl ?_
    refine g_getI flX11_165 (by decide) rfl (by decide) rfl dX11_climb_31 ?_
    refine g_invVI (as := [.inl (σ 73 24)]) (rest := []) okX11_layRow mlX11_149 (by decide) rfl ⟨_, _, rfl⟩ rfl ⟨Nat.le_of_ble_eq_true rfl, Nat.le_of_ble_eq_true rfl⟩ (Nat.le_of_ble_eq_true rfl) rfl dX11_climb_34 h (Or.inr rfl) (fun v2 σ3 e4 => ?_)
    have h := e4
    refine g_pop dX11_climb_37 ?_
    refine g_aload_n dX11_climb_38 rfl rfl ?_
    refine g_invVV (as := []) (rest := []) okX11_becomeNow mlX11_123 (by decide) rfl ⟨_, _, rfl⟩ rfl ⟨Nat.le_of_ble_eq_true rfl, Nat.le_of_ble_eq_true rfl⟩ (Nat.le_of_ble_eq_true rfl) rfl dX11_climb_39 h rfl (fun σ6 e7 => ?_)
    have h := e7
    obtain ⟨p8, h⟩ := h
    refine g_iinc (ls' := [some (.inr 73), some (.inl x1), some (.inl (x2 + 1))]) dX11_climb_42 (by decide) rfl p8 rfl ?_
    refine g_aload_n dX11_climb_45 rfl rfl ?_
    refine g_iload_n dX11_climb_46 rfl rfl ?_
    refine g_invVV (as := [.inl x1]) (rest := []) okX11_findChange mlX11_171 (by decide) rfl ⟨_, _, rfl⟩ rfl ⟨Nat.le_of_ble_eq_true rfl, Nat.le_of_ble_eq_true rfl⟩ (Nat.le_of_ble_eq_true rfl) rfl dX11_climb_47 h rfl (fun σ10 e11 => ?_)
    have h := e11
    refine g_goto (tgt := 21) dX11_climb_50 (by decide) ?_
    exact h
/-- the best of the first numbers -/
noncomputable def bestK (D : Dt) (y k : Nat) : Int × Int × List Nat := (((List.range k).map (dig (dm D))).filter (vB (dn D))).foldl (bst (cost D y)) (-1, 0, [])
theorem bestK_all (D : Dt) (y : Nat) : bestK D y (6 ^ dm D) = bestS D y := rfl
theorem bestK_yes {D : Dt} {y k : Nat} (h : okP (dn D) (dig (dm D) k)) : bestK D y (k + 1) = bst (cost D y) (bestK D y k) (dig (dm D) k) := by
  unfold bestK
  rw [List.range_succ, List.map_append, List.filter_append, List.foldl_append, List.map_singleton, List.filter_cons_of_pos ((vB_iff _).mpr h)]
  rfl
theorem bestK_no {D : Dt} {y k : Nat} (h : ¬ okP (dn D) (dig (dm D) k)) : bestK D y (k + 1) = bestK D y k := by
  unfold bestK
  rw [List.range_succ, List.map_append, List.filter_append, List.foldl_append, List.map_singleton, List.filter_cons_of_neg (fun q => h ((vB_iff _).mp q))]
  rfl
/-- how the reference holds the best -/
def bsR (s : Int × Int × List Nat) (k : Nat) (x : Int) (σ : Mem) : Prop := (0 ≤ s.2.1 ∧ s.2.1 ≤ k) ∧ σ 73 19 = s.2.1 ∧ ((s.1 = -1 ∧ x = 100000000 ∧ s.2.1 = 0) ∨ (0 ≤ s.1 ∧ s.1 ≤ 89100 ∧ x = s.1 ∧ σ 73 20 = nm s.2.2))
theorem c_X11_bestOf {Z : Zt} {σ : Mem} {y : Nat} {x1 : Int} (hZ : GZ Z) (hM : MI Z σ) (hy : y < 4) (e1 : x1 = y) : CM mX11_bestOf [.inr 73, .inl x1] σ (fun v σ1 => bsR (bestS (zD Z) y) (6 ^ dm (zD Z)) v σ1 ∧ ML Z σ1 ∧ MSm [84, 85, 86, 87, 88] σ σ1) := by
  subst e1
  have h5 := hZ.m5
  have hp6 := pow6_le h5
  have key : ∀ (d k : Nat) (x : Int) (σ0 : Mem), k + d = 6 ^ dm (zD Z) → bsR (bestK (zD Z) y k) k x σ0 → ML Z σ0 → MI Z σ0 → MSm [84, 85, 86, 87, 88] σ σ0 → GO none mX11_bestOf 25 [some (.inr 73), some (.inl (y : Int)), some (.inl x), some (.inl ((6 ^ dm (zD Z) : Nat) : Int)), some (.inl (k : Int)), none] [] σ0 (fun v σ1 => bsR (bestS (zD Z) y) (6 ^ dm (zD Z)) v σ1 ∧ ML Z σ1 ∧ MSm [84, 85, 86, 87, 88] σ σ1) := by
    intro d
    generalize hS6 : 6 ^ dm (zD Z) = S at *
    induction d with
    | zero =>
      intro k x σ0 hd hb hL hM0 hS
      have e : k = S := by omega
      subst e
      refine rX11_bestOf_25 ⟨fun _ => ⟨?_, hL, hS⟩, fun h => by omega⟩
      rw [← bestK_all, hS6]
      exact hb
    | succ d ih =>
      intro k x σ0 hd hb hL hM0 hS
      have hk : k < 6 ^ dm (zD Z) := by omega
      refine rX11_bestOf_25 ⟨fun h => by omega, fun _ => CM.mono (fun v σ1 hq => ?_) (c_X11_layRow hZ hM0 hk rfl)⟩
      obtain ⟨hv, hh, hS1⟩ := hq
      have hM1 := hM0.same (MSm.same hS1 (by decide)) (by decide)
      have hL1 := hL.same hS1 (by decide) (by decide)
      have hMS1 : MSm [84, 85, 86, 87, 88] σ σ1 := hS.tr ((MSm.same hS1 (by decide)).wk (by decide))
      obtain ⟨⟨b1, b2⟩, b3, b4⟩ := hb
      have b3' : σ1 73 19 = (bestK (zD Z) y k).2.1 := by rw [hS1 73 (by decide)]; exact b3
      have b5 : σ1 73 20 = σ0 73 20 := by rw [hS1 73 (by decide)]
      have upd : ∀ (i : Nat) (w : Int) (σ2 : Mem), 10 ≤ i → (MI Z σ2 ∧ ML Z σ2 ∧ MSm [84, 85, 86, 87, 88] σ σ2) → (MI Z (mu σ2 73 i w) ∧ ML Z (mu σ2 73 i w) ∧ MSm [84, 85, 86, 87, 88] σ (mu σ2 73 i w)) := fun i w σ2 hi h => ⟨h.1.same (MSm.up73 (S := []) hi) (by decide), h.2.1.same (Same.mu (S := [73]) (by decide)) (by decide) (by decide), h.2.2.tr (MSm.up73 hi)⟩
      refine ⟨fun h0 => ?_, fun h0 => ?_⟩
      · have hno := (hv.resolve_left (fun z => by omega)).2
        have hx : x ≤ 100000000 := by rcases b4 with w | w <;> omega
        refine ⟨fun _ => ⟨by omega, by omega, ?_⟩, fun h => by omega⟩
        have hu := upd 19 (σ1 73 19 + 0) σ1 (by omega) ⟨hM1, hL1, hMS1⟩
        refine ih (k + 1) x _ (by omega) ?_ hu.2.1 hu.1 hu.2.2
        rw [bestK_no hno]
        refine ⟨⟨b1, by omega⟩, by rw [mu_at, if_pos rfl]; omega, ?_⟩
        rw [mu_atn (by decide), b5]
        exact b4
      · have hyes := (hv.resolve_right (fun z => h0 z.1)).2
        have hlen := dig_len (dm (zD Z)) k
        refine CM.mono (fun v2 σ2 hq => ?_) (c_X11_costOf (p := dig (dm (zD Z)) k) (y := y) hZ hM1 hL1 hlen hyes.1 hh hy rfl)
        obtain ⟨rfl, rfl⟩ := hq
        have hcb := cM_bd hZ (y := y) hy hlen hyes.1
        have hnk := nm_dig (dm (zD Z)) k hk
        have hbk : bestK (zD Z) y (k + 1) = bst (cost (zD Z) y) (bestK (zD Z) y k) (dig (dm (zD Z)) k) := bestK_yes hyes
        have keep : ∀ w : Int, bestK (zD Z) y (k + 1) = ((bestK (zD Z) y k).1, w, (bestK (zD Z) y k).2.2) → 0 ≤ w → w ≤ (k : Int) + 1 → ((bestK (zD Z) y k).1 = -1 → w = 0) → GO none mX11_bestOf 25 [some (.inr 73), some (.inl (y : Int)), some (.inl x), some (.inl (S : Int)), some (.inl ((k : Int) + 1)), none] [] (mu σ2 73 19 w) (fun v σ1 => bsR (bestS (zD Z) y) S v σ1 ∧ ML Z σ1 ∧ MSm [84, 85, 86, 87, 88] σ σ1) := fun w hw w1 w2 w3 => by
          have hu := upd 19 w σ2 (by omega) ⟨hM1, hL1, hMS1⟩
          refine ih (k + 1) x _ (by omega) ?_ hu.2.1 hu.1 hu.2.2
          rw [hw]
          refine ⟨⟨w1, by show w ≤ _; omega⟩, by rw [mu_at, if_pos rfl], ?_⟩
          rw [mu_atn (by decide), b5]
          rcases b4 with z | z
          · exact Or.inl ⟨z.1, z.2.1, w3 z.1⟩
          · exact Or.inr z
        have new : bestK (zD Z) y (k + 1) = (cost (zD Z) y (dig (dm (zD Z)) k), 1, dig (dm (zD Z)) k) → cost (zD Z) y (dig (dm (zD Z)) k) ≠ -1 → GO none mX11_bestOf 25 [some (.inr 73), some (.inl (y : Int)), some (.inl (cM (zD Z) y (dig (dm (zD Z)) k))), some (.inl (S : Int)), some (.inl ((k : Int) + 1)), none] [] (mu (mu (mu σ2 73 19 0) 73 20 k) 73 19 (0 + 1)) (fun v σ1 => bsR (bestS (zD Z) y) S v σ1 ∧ ML Z σ1 ∧ MSm [84, 85, 86, 87, 88] σ σ1) := fun hw hne => by
          have hu := upd 19 (0 + 1) _ (by omega) (upd 20 k _ (by omega) (upd 19 0 σ2 (by omega) ⟨hM1, hL1, hMS1⟩))
          refine ih (k + 1) _ _ (by omega) ?_ hu.2.1 hu.1 hu.2.2
          rw [hw]
          refine ⟨⟨by show (0 : Int) ≤ 1; omega, by show (1 : Int) ≤ _; omega⟩, by rw [mu_at, if_pos rfl]; rfl, Or.inr ⟨?_, ?_, ?_, ?_⟩⟩
          · show 0 ≤ cost (zD Z) y (dig (dm (zD Z)) k); omega
          · show cost (zD Z) y (dig (dm (zD Z)) k) ≤ 89100; omega
          · show cM (zD Z) y (dig (dm (zD Z)) k) = cost (zD Z) y (dig (dm (zD Z)) k); omega
          · rw [mu_atn (by decide), mu_at, if_pos rfl]
            show (k : Int) = (nm (dig (dm (zD Z)) k) : Int)
            rw [hnk]
        rw [b3']
        unfold bst at hbk
        generalize hcc : cost (zD Z) y (dig (dm (zD Z)) k) = c at *
        generalize hcm : cM (zD Z) y (dig (dm (zD Z)) k) = cm at *
        refine ⟨fun g => ⟨fun g2 => ⟨by omega, by omega, ?_⟩, fun g2 => ⟨fun g3 => ⟨by omega, by omega, ?_⟩, fun g3 => ⟨by omega, by omega, ?_⟩⟩⟩, fun g => ⟨fun g2 => ?_, fun g2 => ⟨fun g3 => absurd rfl g3, fun _ => ⟨by omega, ?_⟩⟩⟩⟩
        · rw [if_pos (by omega)] at hbk
          rw [Int.add_zero]
          exact keep _ (by rw [hbk]) b1 (by omega) (fun z => by omega)
        · rw [if_neg (by omega), if_neg (by omega), if_neg (by omega)] at hbk
          rw [Int.add_zero]
          exact keep _ (by rw [hbk]) b1 (by omega) (fun z => by omega)
        · rw [if_neg (by omega), if_neg (by omega), if_pos (by omega)] at hbk
          exact keep _ hbk (by omega) (by omega) (fun z => by omega)
        · omega
        · rw [if_neg (by omega), if_pos (by omega)] at hbk
          exact new hbk (by omega)
  refine rX11_bestOf_0 (CM.mono (fun _ σ1 hq => ?_) (c_X11_layFloor hZ hM))
  obtain ⟨hL, hS⟩ := hq
  have hM1 := hM.same (MSm.same hS (by decide)) (by decide)
  have hM2 : MI Z (mu (mu σ1 73 19 0) 73 20 (-1)) := (hM1.same (MSm.up73 (S := []) (by omega)) (by decide)).same (MSm.up73 (S := []) (by omega)) (by decide)
  refine CM.mono (fun v σ2 hq => ?_) (c_X11_allNumbers hZ hM2)
  obtain ⟨rfl, rfl⟩ := hq
  refine key (6 ^ dm (zD Z)) 0 100000000 _ (by omega) ⟨⟨Int.le_refl _, Int.le_refl _⟩, ?_, Or.inl ⟨rfl, rfl, rfl⟩⟩ ?_ hM2 ?_
  · rw [mu_atn (by decide), mu_at, if_pos rfl]; rfl
  · exact (hL.same (Same.mu (S := [73]) (by decide)) (by decide) (by decide)).same (Same.mu (S := [73]) (by decide)) (by decide) (by decide)
  · exact (((MSm.same hS (by decide)).wk (by decide)).tr (MSm.up73 (by omega))).tr (MSm.up73 (by omega))
theorem aYr.get {y v : Int} {A : Nat → Int → Prop} {k : Nat} (h : aYr y A v) (hy : isY y) (e : y.toNat = k) : A k v := by
  rcases h with ⟨-, w⟩ | ⟨w, -⟩
  · rw [← e]; exact w
  · exact absurd hy w
theorem aYr.bad {y v : Int} {A : Nat → Int → Prop} (h : aYr y A v) (hy : ¬ isY y) : v = -2 := by
  rcases h with ⟨w, -⟩ | ⟨-, w⟩
  · exact absurd w hy
  · exact w
theorem c_X11_best {Z Z' : Zt} {σ : Mem} {y v : Int} (hZ : GZ Z) (hM : MI Z σ) (hN : nxA Z (aYr y (fun k v => v = (bestS (zD Z) k).1)) v Z') : CM mX11_best [.inr 73, .inl y] σ (RQ σ v Z') := by
  obtain ⟨hA, rfl⟩ := hN
  refine rX11_best_0 ⟨fun h => ?_, fun h => ⟨(hA.bad h).symm, hM, Same.rf⟩⟩
  obtain ⟨k, hk, ey, e2⟩ := isY_nat h
  have hv := hA.get h e2
  refine CM.mono (fun w σ1 hq => ?_) (c_X11_bestOf (y := k) hZ hM hk ey)
  obtain ⟨⟨-, -, hb⟩, -, hS⟩ := hq
  exact ⟨fun h0 => MQstay hM hS (by omega), fun h0 => MQstay hM hS (by omega)⟩
where
  MQstay {Z : Zt} {σ σ1 : Mem} {v w : Int} (hM : MI Z σ) (hS : MSm [84, 85, 86, 87, 88] σ σ1) (e : w = v) : RQ σ v Z w σ1 := RQ.stay hM hS (by decide) (by decide) e
theorem c_X11_many {Z Z' : Zt} {σ : Mem} {y v : Int} (hZ : GZ Z) (hM : MI Z σ) (hN : nxA Z (aYr y (fun k v => v = (bestS (zD Z) k).2.1)) v Z') : CM mX11_many [.inr 73, .inl y] σ (RQ σ v Z') := by
  obtain ⟨hA, rfl⟩ := hN
  refine rX11_many_0 ⟨fun h => ?_, fun h => ⟨(hA.bad h).symm, hM, Same.rf⟩⟩
  obtain ⟨k, hk, ey, e2⟩ := isY_nat h
  have hv := hA.get h e2
  refine CM.mono (fun w σ1 hq => ?_) (c_X11_bestOf (y := k) hZ hM hk ey)
  obtain ⟨⟨-, hb, -⟩, -, hS⟩ := hq
  exact RQ.stay hM hS (by decide) (by decide) (by rw [hb, hv])
theorem c_X11_take {Z Z' : Zt} {σ : Mem} {y v : Int} (hZ : GZ Z) (hM : MI Z σ) (hN : nxTake Z y v Z') : CM mX11_take [.inr 73, .inl y] σ (RQ σ v Z') := by
  refine rX11_take_0 ⟨fun h => ?_, fun h => ?_⟩
  · obtain ⟨k, hk, ey, e2⟩ := isY_nat h
    refine CM.mono (fun w σ1 hq => ?_) (c_X11_bestOf (y := k) hZ hM hk ey)
    obtain ⟨⟨-, -, hb⟩, hL, hS⟩ := hq
    have hM1 := hM.same hS (by decide)
    unfold nxTake at hN
    rw [e2] at hN
    rcases hN with ⟨w, -⟩ | ⟨-, w, rfl, rfl⟩ | ⟨-, w, rfl, rfl⟩
    · exact absurd h w
    · exact ⟨fun h0 => by omega, fun h0 => RQ.stay hM hS (by decide) (by decide) rfl⟩
    · refine ⟨fun h0 => ?_, fun h0 => by omega⟩
      have hm := pE_ok (bestS_mem w)
      have h6 := okP.s6 hZ hm.2
      have e20 : σ1 73 20 = (nm (bestS (zD Z) k).2.2 : Int) := (hb.resolve_left (fun z => w z.1)).2.2.2
      have hdg := dig_nm (dm (zD Z)) _ hm.1 h6
      refine CM.mono (fun _ σ2 hq => ?_) (c_X11_layRow (k := nm (bestS (zD Z) k).2.2) hZ hM1 (by rw [← hm.1]; exact nm_lt _ h6) e20)
      obtain ⟨-, hh, hS2⟩ := hq
      rw [hdg] at hh
      have hM2 := hM1.same (MSm.same hS2 (by decide)) (by decide)
      refine CM.mono (fun _ σ3 hq => ?_) (c_X11_becomeNow (p := (bestS (zD Z) k).2.2) hZ hM2 hm.1 hh)
      obtain ⟨g1, g2⟩ := hq
      refine ⟨by omega, hM2.hand (MSm.same g2 (by decide)) (by decide) g1, ((hS.1.wk (by decide)).tr (hS2.wk (by decide))).tr (g2.wk (by decide))⟩
  · rcases hN with ⟨-, rfl, rfl⟩ | ⟨w, -⟩ | ⟨w, -⟩
    · exact ⟨rfl, hM, Same.rf⟩
    · exact absurd w h
    · exact absurd w h
