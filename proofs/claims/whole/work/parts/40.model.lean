/-! ===== the reference: small methods, ways ===== -/
set_option maxRecDepth 100000 in
theorem rX11_in_0 {x0 x1 x2 : Int}  {σ : Mem} {Q : Int → Mem → Prop} (h : (x0 < x1 → Q 0 σ) ∧ (x1 ≤ x0 → (x2 < x0 → Q 0 σ) ∧ (x0 ≤ x2 → Q 1 σ))) : CM mX11_in [.inl x0, .inl x1, .inl x2] σ Q := by
  refine CM_of_GO (by decide +kernel) rfl (Nat.le_of_ble_eq_true rfl) ?_
  show GO none mX11_in 0 [some (.inl x0), some (.inl x1), some (.inl x2)] [] σ Q
  refine g_iload_n dX11_in_0 rfl rfl ?_
  refine g_iload_n dX11_in_1 rfl rfl ?_
  refine g_icmp_lt (tgt := 14) dX11_in_2 (by decide) (fun c1 => ?_) (fun c1 => ?_)
  · have h := h.1 c1
    refine g_iconst dX11_in_14 (by decide) ?_
    exact g_zreturn rfl dX11_in_15 (by decide) h
  · have h := h.2 c1
    refine g_iload_n dX11_in_5 rfl rfl ?_
    refine g_iload_n dX11_in_6 rfl rfl ?_
    refine g_icmp_gt (tgt := 14) dX11_in_7 (by decide) (fun c2 => ?_) (fun c2 => ?_)
    · have h := h.1 c2
      refine g_iconst dX11_in_14 (by decide) ?_
      exact g_zreturn rfl dX11_in_15 (by decide) h
    · have h := h.2 c2
      refine g_iconst dX11_in_10 (by decide) ?_
      refine g_goto (tgt := 15) dX11_in_11 (by decide) ?_
      exact g_zreturn rfl dX11_in_15 (by decide) h
set_option maxRecDepth 100000 in
theorem rX11_beside_0 {x0 x1 : Int}  {σ : Mem} {Q : Int → Mem → Prop} (h : (x1 ≠ 0 → (x1 ≠ 1 → (x1 ≠ 2 → ((Int.tdiv x0 6) ≤ 0 → Q (-1) σ) ∧ (0 < (Int.tdiv x0 6) → (x1 ≠ 0 → (x1 ≠ 1 → (x1 ≠ 2 → ((inR (x0 - 6)) ∧ (Q (x0 - 6) σ))) ∧ (x1 = 2 → ((inR (x0 + 6)) ∧ (Q (x0 + 6) σ)))) ∧ (x1 = 1 → ((inR (x0 - 1)) ∧ (Q (x0 - 1) σ)))) ∧ (x1 = 0 → ((inR (x0 + 1)) ∧ (Q (x0 + 1) σ))))) ∧ (x1 = 2 → (5 ≤ (Int.tdiv x0 6) → Q (-1) σ) ∧ ((Int.tdiv x0 6) < 5 → (x1 ≠ 0 → (x1 ≠ 1 → (x1 ≠ 2 → ((inR (x0 - 6)) ∧ (Q (x0 - 6) σ))) ∧ (x1 = 2 → ((inR (x0 + 6)) ∧ (Q (x0 + 6) σ)))) ∧ (x1 = 1 → ((inR (x0 - 1)) ∧ (Q (x0 - 1) σ)))) ∧ (x1 = 0 → ((inR (x0 + 1)) ∧ (Q (x0 + 1) σ)))))) ∧ (x1 = 1 → ((Int.tmod x0 6) ≤ 0 → Q (-1) σ) ∧ (0 < (Int.tmod x0 6) → (x1 ≠ 0 → (x1 ≠ 1 → (x1 ≠ 2 → ((inR (x0 - 6)) ∧ (Q (x0 - 6) σ))) ∧ (x1 = 2 → ((inR (x0 + 6)) ∧ (Q (x0 + 6) σ)))) ∧ (x1 = 1 → ((inR (x0 - 1)) ∧ (Q (x0 - 1) σ)))) ∧ (x1 = 0 → ((inR (x0 + 1)) ∧ (Q (x0 + 1) σ)))))) ∧ (x1 = 0 → (5 ≤ (Int.tmod x0 6) → Q (-1) σ) ∧ ((Int.tmod x0 6) < 5 → (x1 ≠ 0 → (x1 ≠ 1 → (x1 ≠ 2 → ((inR (x0 - 6)) ∧ (Q (x0 - 6) σ))) ∧ (x1 = 2 → ((inR (x0 + 6)) ∧ (Q (x0 + 6) σ)))) ∧ (x1 = 1 → ((inR (x0 - 1)) ∧ (Q (x0 - 1) σ)))) ∧ (x1 = 0 → ((inR (x0 + 1)) ∧ (Q (x0 + 1) σ)))))) : CM mX11_beside [.inl x0, .inl x1] σ Q := by
  refine CM_of_GO (by decide +kernel) rfl (Nat.le_of_ble_eq_true rfl) ?_
  show GO none mX11_beside 0 [some (.inl x0), some (.inl x1), none, none, none] [] σ Q
  refine g_iload_n dX11_beside_0 rfl rfl ?_
  refine g_bipush dX11_beside_1 (by decide) (by decide) ?_
  refine g_irem dX11_beside_3 (by decide) ?_
  refine g_istore_n (ls' := [some (.inl x0), some (.inl x1), some (.inl (Int.tmod x0 6)), none, none]) dX11_beside_4 rfl (by decide) rfl ?_
  refine g_iload_n dX11_beside_5 rfl rfl ?_
  refine g_bipush dX11_beside_6 (by decide) (by decide) ?_
  refine g_idiv dX11_beside_8 (by decide) ?_
  refine g_istore_n (ls' := [some (.inl x0), some (.inl x1), some (.inl (Int.tmod x0 6)), some (.inl (Int.tdiv x0 6)), none]) dX11_beside_9 rfl (by decide) rfl ?_
  refine g_iload_n dX11_beside_10 rfl rfl ?_
  refine g_if_ne (tgt := 27) dX11_beside_11 (by decide) (fun c1 => ?_) (fun c1 => ?_)
  · have h := h.1 c1
    refine g_iload_n dX11_beside_27 rfl rfl ?_
    refine g_iconst dX11_beside_28 (by decide) ?_
    refine g_icmp_ne (tgt := 44) dX11_beside_29 (by decide) (fun c2 => ?_) (fun c2 => ?_)
    · have h := h.1 c2
      refine g_iload_n dX11_beside_44 rfl rfl ?_
      refine g_iconst dX11_beside_45 (by decide) ?_
      refine g_icmp_ne (tgt := 62) dX11_beside_46 (by decide) (fun c3 => ?_) (fun c3 => ?_)
      · have h := h.1 c3
        refine g_iload_n dX11_beside_62 rfl rfl ?_
        refine g_if_le (tgt := 70) dX11_beside_63 (by decide) (fun c4 => ?_) (fun c4 => ?_)
        · have h := h.1 c4
          refine g_iconst dX11_beside_70 (by decide) ?_
          refine g_istore (ls' := [some (.inl x0), some (.inl x1), some (.inl (Int.tmod x0 6)), some (.inl (Int.tdiv x0 6)), some (.inl 0)]) dX11_beside_71 (by decide) rfl ?_
          refine g_iload dX11_beside_73 rfl ?_
          refine g_if_ne (tgt := 82) dX11_beside_75 (by decide) (fun c9 => absurd c9 (by decide)) (fun _ => ?_)
          refine g_iconst dX11_beside_78 (by decide) ?_
          refine g_goto (tgt := 119) dX11_beside_79 (by decide) ?_
          exact g_ireturn rfl dX11_beside_119 h
        · have h := h.2 c4
          refine g_iconst dX11_beside_66 (by decide) ?_
          refine g_goto (tgt := 71) dX11_beside_67 (by decide) ?_
          refine g_istore (ls' := [some (.inl x0), some (.inl x1), some (.inl (Int.tmod x0 6)), some (.inl (Int.tdiv x0 6)), some (.inl 1)]) dX11_beside_71 (by decide) rfl ?_
          refine g_iload dX11_beside_73 rfl ?_
          refine g_if_ne (tgt := 82) dX11_beside_75 (by decide) (fun _ => ?_) (fun c9 => absurd c9 (by decide))
          refine g_iload_n dX11_beside_82 rfl rfl ?_
          refine g_if_ne (tgt := 92) dX11_beside_83 (by decide) (fun c5 => ?_) (fun c5 => ?_)
          · have h := h.1 c5
            refine g_iload_n dX11_beside_92 rfl rfl ?_
            refine g_iconst dX11_beside_93 (by decide) ?_
            refine g_icmp_ne (tgt := 103) dX11_beside_94 (by decide) (fun c6 => ?_) (fun c6 => ?_)
            · have h := h.1 c6
              refine g_iload_n dX11_beside_103 rfl rfl ?_
              refine g_iconst dX11_beside_104 (by decide) ?_
              refine g_icmp_ne (tgt := 115) dX11_beside_105 (by decide) (fun c7 => ?_) (fun c7 => ?_)
              · have h := h.1 c7
                refine g_iload_n dX11_beside_115 rfl rfl ?_
                refine g_bipush dX11_beside_116 (by decide) (by decide) ?_
                obtain ⟨p8, h⟩ := h
                refine g_isub dX11_beside_118 p8 ?_
                exact g_ireturn rfl dX11_beside_119 h
              · have h := h.2 c7
                refine g_iload_n dX11_beside_108 rfl rfl ?_
                refine g_bipush dX11_beside_109 (by decide) (by decide) ?_
                obtain ⟨p9, h⟩ := h
                refine g_iadd dX11_beside_111 p9 ?_
                refine g_goto (tgt := 119) dX11_beside_112 (by decide) ?_
                exact g_ireturn rfl dX11_beside_119 h
            · have h := h.2 c6
              refine g_iload_n dX11_beside_97 rfl rfl ?_
              refine g_iconst dX11_beside_98 (by decide) ?_
              obtain ⟨p10, h⟩ := h
              refine g_isub dX11_beside_99 p10 ?_
              refine g_goto (tgt := 119) dX11_beside_100 (by decide) ?_
              exact g_ireturn rfl dX11_beside_119 h
          · have h := h.2 c5
            refine g_iload_n dX11_beside_86 rfl rfl ?_
            refine g_iconst dX11_beside_87 (by decide) ?_
            obtain ⟨p11, h⟩ := h
            refine g_iadd dX11_beside_88 p11 ?_
            refine g_goto (tgt := 119) dX11_beside_89 (by decide) ?_
            exact g_ireturn rfl dX11_beside_119 h
      · have h := h.2 c3
        refine g_iload_n dX11_beside_49 rfl rfl ?_
        refine g_iconst dX11_beside_50 (by decide) ?_
        refine g_icmp_ge (tgt := 58) dX11_beside_51 (by decide) (fun c12 => ?_) (fun c12 => ?_)
        · have h := h.1 c12
          refine g_iconst dX11_beside_58 (by decide) ?_
          refine g_goto (tgt := 71) dX11_beside_59 (by decide) ?_
          refine g_istore (ls' := [some (.inl x0), some (.inl x1), some (.inl (Int.tmod x0 6)), some (.inl (Int.tdiv x0 6)), some (.inl 0)]) dX11_beside_71 (by decide) rfl ?_
          refine g_iload dX11_beside_73 rfl ?_
          refine g_if_ne (tgt := 82) dX11_beside_75 (by decide) (fun c9 => absurd c9 (by decide)) (fun _ => ?_)
          refine g_iconst dX11_beside_78 (by decide) ?_
          refine g_goto (tgt := 119) dX11_beside_79 (by decide) ?_
          exact g_ireturn rfl dX11_beside_119 h
        · have h := h.2 c12
          refine g_iconst dX11_beside_54 (by decide) ?_
          refine g_goto (tgt := 71) dX11_beside_55 (by decide) ?_
          refine g_istore (ls' := [some (.inl x0), some (.inl x1), some (.inl (Int.tmod x0 6)), some (.inl (Int.tdiv x0 6)), some (.inl 1)]) dX11_beside_71 (by decide) rfl ?_
          refine g_iload dX11_beside_73 rfl ?_
          refine g_if_ne (tgt := 82) dX11_beside_75 (by decide) (fun _ => ?_) (fun c9 => absurd c9 (by decide))
          refine g_iload_n dX11_beside_82 rfl rfl ?_
          refine g_if_ne (tgt := 92) dX11_beside_83 (by decide) (fun c13 => ?_) (fun c13 => ?_)
          · have h := h.1 c13
            refine g_iload_n dX11_beside_92 rfl rfl ?_
            refine g_iconst dX11_beside_93 (by decide) ?_
            refine g_icmp_ne (tgt := 103) dX11_beside_94 (by decide) (fun c14 => ?_) (fun c14 => ?_)
            · have h := h.1 c14
              refine g_iload_n dX11_beside_103 rfl rfl ?_
              refine g_iconst dX11_beside_104 (by decide) ?_
              refine g_icmp_ne (tgt := 115) dX11_beside_105 (by decide) (fun c15 => ?_) (fun c15 => ?_)
              · have h := h.1 c15
                refine g_iload_n dX11_beside_115 rfl rfl ?_
                refine g_bipush dX11_beside_116 (by decide) (by decide) ?_
                obtain ⟨p16, h⟩ := h
                refine g_isub dX11_beside_118 p16 ?_
                exact g_ireturn rfl dX11_beside_119 h
              · have h := h.2 c15
                refine g_iload_n dX11_beside_108 rfl rfl ?_
                refine g_bipush dX11_beside_109 (by decide) (by decide) ?_
                obtain ⟨p17, h⟩ := h
                refine g_iadd dX11_beside_111 p17 ?_
                refine g_goto (tgt := 119) dX11_beside_112 (by decide) ?_
                exact g_ireturn rfl dX11_beside_119 h
            · have h := h.2 c14
              refine g_iload_n dX11_beside_97 rfl rfl ?_
              refine g_iconst dX11_beside_98 (by decide) ?_
              obtain ⟨p18, h⟩ := h
              refine g_isub dX11_beside_99 p18 ?_
              refine g_goto (tgt := 119) dX11_beside_100 (by decide) ?_
              exact g_ireturn rfl dX11_beside_119 h
          · have h := h.2 c13
            refine g_iload_n dX11_beside_86 rfl rfl ?_
            refine g_iconst dX11_beside_87 (by decide) ?_
            obtain ⟨p19, h⟩ := h
            refine g_iadd dX11_beside_88 p19 ?_
            refine g_goto (tgt := 119) dX11_beside_89 (by decide) ?_
            exact g_ireturn rfl dX11_beside_119 h
    · have h := h.2 c2
      refine g_iload_n dX11_beside_32 rfl rfl ?_
      refine g_if_le (tgt := 40) dX11_beside_33 (by decide) (fun c20 => ?_) (fun c20 => ?_)
      · have h := h.1 c20
        refine g_iconst dX11_beside_40 (by decide) ?_
        refine g_goto (tgt := 71) dX11_beside_41 (by decide) ?_
        refine g_istore (ls' := [some (.inl x0), some (.inl x1), some (.inl (Int.tmod x0 6)), some (.inl (Int.tdiv x0 6)), some (.inl 0)]) dX11_beside_71 (by decide) rfl ?_
        refine g_iload dX11_beside_73 rfl ?_
        refine g_if_ne (tgt := 82) dX11_beside_75 (by decide) (fun c9 => absurd c9 (by decide)) (fun _ => ?_)
        refine g_iconst dX11_beside_78 (by decide) ?_
        refine g_goto (tgt := 119) dX11_beside_79 (by decide) ?_
        exact g_ireturn rfl dX11_beside_119 h
      · have h := h.2 c20
        refine g_iconst dX11_beside_36 (by decide) ?_
        refine g_goto (tgt := 71) dX11_beside_37 (by decide) ?_
        refine g_istore (ls' := [some (.inl x0), some (.inl x1), some (.inl (Int.tmod x0 6)), some (.inl (Int.tdiv x0 6)), some (.inl 1)]) dX11_beside_71 (by decide) rfl ?_
        refine g_iload dX11_beside_73 rfl ?_
        refine g_if_ne (tgt := 82) dX11_beside_75 (by decide) (fun _ => ?_) (fun c9 => absurd c9 (by decide))
        refine g_iload_n dX11_beside_82 rfl rfl ?_
        refine g_if_ne (tgt := 92) dX11_beside_83 (by decide) (fun c21 => ?_) (fun c21 => ?_)
        · have h := h.1 c21
          refine g_iload_n dX11_beside_92 rfl rfl ?_
          refine g_iconst dX11_beside_93 (by decide) ?_
          refine g_icmp_ne (tgt := 103) dX11_beside_94 (by decide) (fun c22 => ?_) (fun c22 => ?_)
          · have h := h.1 c22
            refine g_iload_n dX11_beside_103 rfl rfl ?_
            refine g_iconst dX11_beside_104 (by decide) ?_
            refine g_icmp_ne (tgt := 115) dX11_beside_105 (by decide) (fun c23 => ?_) (fun c23 => ?_)
            · have h := h.1 c23
              refine g_iload_n dX11_beside_115 rfl rfl ?_
              refine g_bipush dX11_beside_116 (by decide) (by decide) ?_
              obtain ⟨p24, h⟩ := h
              refine g_isub dX11_beside_118 p24 ?_
              exact g_ireturn rfl dX11_beside_119 h
            · have h := h.2 c23
              refine g_iload_n dX11_beside_108 rfl rfl ?_
              refine g_bipush dX11_beside_109 (by decide) (by decide) ?_
              obtain ⟨p25, h⟩ := h
              refine g_iadd dX11_beside_111 p25 ?_
              refine g_goto (tgt := 119) dX11_beside_112 (by decide) ?_
              exact g_ireturn rfl dX11_beside_119 h
          · have h := h.2 c22
            refine g_iload_n dX11_beside_97 rfl rfl ?_
            refine g_iconst dX11_beside_98 (by decide) ?_
            obtain ⟨p26, h⟩ := h
            refine g_isub dX11_beside_99 p26 ?_
            refine g_goto (tgt := 119) dX11_beside_100 (by decide) ?_
            exact g_ireturn rfl dX11_beside_119 h
        · have h := h.2 c21
          refine g_iload_n dX11_beside_86 rfl rfl ?_
          refine g_iconst dX11_beside_87 (by decide) ?_
          obtain ⟨p27, h⟩ := h
          refine g_iadd dX11_beside_88 p27 ?_
          refine g_goto (tgt := 119) dX11_beside_89 (by decide) ?_
          exact g_ireturn rfl dX11_beside_119 h
  · have h := h.2 c1
    refine g_iload_n dX11_beside_14 rfl rfl ?_
    refine g_iconst dX11_beside_15 (by decide) ?_
    refine g_icmp_ge (tgt := 23) dX11_beside_16 (by decide) (fun c28 => ?_) (fun c28 => ?_)
    · have h := h.1 c28
      refine g_iconst dX11_beside_23 (by decide) ?_
      refine g_goto (tgt := 71) dX11_beside_24 (by decide) ?_
      refine g_istore (ls' := [some (.inl x0), some (.inl x1), some (.inl (Int.tmod x0 6)), some (.inl (Int.tdiv x0 6)), some (.inl 0)]) dX11_beside_71 (by decide) rfl ?_
      refine g_iload dX11_beside_73 rfl ?_
      refine g_if_ne (tgt := 82) dX11_beside_75 (by decide) (fun c9 => absurd c9 (by decide)) (fun _ => ?_)
      refine g_iconst dX11_beside_78 (by decide) ?_
      refine g_goto (tgt := 119) dX11_beside_79 (by decide) ?_
      exact g_ireturn rfl dX11_beside_119 h
    · have h := h.2 c28
      refine g_iconst dX11_beside_19 (by decide) ?_
      refine g_goto (tgt := 71) dX11_beside_20 (by decide) ?_
      refine g_istore (ls' := [some (.inl x0), some (.inl x1), some (.inl (Int.tmod x0 6)), some (.inl (Int.tdiv x0 6)), some (.inl 1)]) dX11_beside_71 (by decide) rfl ?_
      refine g_iload dX11_beside_73 rfl ?_
      refine g_if_ne (tgt := 82) dX11_beside_75 (by decide) (fun _ => ?_) (fun c9 => absurd c9 (by decide))
      refine g_iload_n dX11_beside_82 rfl rfl ?_
      refine g_if_ne (tgt := 92) dX11_beside_83 (by decide) (fun c29 => ?_) (fun c29 => ?_)
      · have h := h.1 c29
        refine g_iload_n dX11_beside_92 rfl rfl ?_
        refine g_iconst dX11_beside_93 (by decide) ?_
        refine g_icmp_ne (tgt := 103) dX11_beside_94 (by decide) (fun c30 => ?_) (fun c30 => ?_)
        · have h := h.1 c30
          refine g_iload_n dX11_beside_103 rfl rfl ?_
          refine g_iconst dX11_beside_104 (by decide) ?_
          refine g_icmp_ne (tgt := 115) dX11_beside_105 (by decide) (fun c31 => ?_) (fun c31 => ?_)
          · have h := h.1 c31
            refine g_iload_n dX11_beside_115 rfl rfl ?_
            refine g_bipush dX11_beside_116 (by decide) (by decide) ?_
            obtain ⟨p32, h⟩ := h
            refine g_isub dX11_beside_118 p32 ?_
            exact g_ireturn rfl dX11_beside_119 h
          · have h := h.2 c31
            refine g_iload_n dX11_beside_108 rfl rfl ?_
            refine g_bipush dX11_beside_109 (by decide) (by decide) ?_
            obtain ⟨p33, h⟩ := h
            refine g_iadd dX11_beside_111 p33 ?_
            refine g_goto (tgt := 119) dX11_beside_112 (by decide) ?_
            exact g_ireturn rfl dX11_beside_119 h
        · have h := h.2 c30
          refine g_iload_n dX11_beside_97 rfl rfl ?_
          refine g_iconst dX11_beside_98 (by decide) ?_
          obtain ⟨p34, h⟩ := h
          refine g_isub dX11_beside_99 p34 ?_
          refine g_goto (tgt := 119) dX11_beside_100 (by decide) ?_
          exact g_ireturn rfl dX11_beside_119 h
      · have h := h.2 c29
        refine g_iload_n dX11_beside_86 rfl rfl ?_
        refine g_iconst dX11_beside_87 (by decide) ?_
        obtain ⟨p35, h⟩ := h
        refine g_iadd dX11_beside_88 p35 ?_
        refine g_goto (tgt := 119) dX11_beside_89 (by decide) ?_
        exact g_ireturn rfl dX11_beside_119 h
theorem c_X11_in {σ : Mem} {x a b : Int} : CM mX11_in [.inl x, .inl a, .inl b] σ (fun v σ1 => v = (if a ≤ x ∧ x ≤ b then 1 else 0) ∧ σ1 = σ) :=
  rX11_in_0 ⟨fun h => ⟨by rw [if_neg (by omega)], rfl⟩, fun h => ⟨fun h2 => ⟨by rw [if_neg (by omega)], rfl⟩, fun h2 => ⟨by rw [if_pos ⟨h, h2⟩], rfl⟩⟩⟩
set_option maxRecDepth 100000 in
theorem rX11_isCell_0 {x0 x1 : Int}  {σ : Mem} {Q : Int → Mem → Prop} (h : (¬ (0 ≤ x0 ∧ x0 ≤ 5) → Q 0 σ) ∧ (0 ≤ x0 ∧ x0 ≤ 5 → (¬ (0 ≤ x1 ∧ x1 ≤ 5) → Q 0 σ) ∧ (0 ≤ x1 ∧ x1 ≤ 5 → Q 1 σ))) : CM mX11_isCell [.inl x0, .inl x1] σ Q := by
  refine CM_of_GO (by decide +kernel) rfl (Nat.le_of_ble_eq_true rfl) ?_
  show GO none mX11_isCell 0 [some (.inl x0), some (.inl x1)] [] σ Q
  refine g_iload_n dX11_isCell_0 rfl rfl ?_
  refine g_iconst dX11_isCell_1 (by decide) ?_
  refine g_iconst dX11_isCell_2 (by decide) ?_
  refine g_invSI (as := [.inl x0, .inl 0, .inl 5]) (rest := []) okX11_in rfl mlX11_78 rfl ⟨Nat.le_of_ble_eq_true rfl, Nat.le_of_ble_eq_true rfl⟩ (Nat.le_of_ble_eq_true rfl) rfl dX11_isCell_3 (c_X11_in) (Or.inr rfl) (fun v1 σ2 e3 => ?_)
  obtain ⟨e3a, e3b⟩ := e3; subst v1; subst σ2
  refine g_if_eq (tgt := 22) dX11_isCell_6 (by decide) (fun c4 => ?_) (fun c4 => ?_)
  · have h := h.1 (ite_no c4)
    refine g_iconst dX11_isCell_22 (by decide) ?_
    exact g_zreturn rfl dX11_isCell_23 (by decide) h
  · have h := h.2 (ite_yes c4)
    refine g_iload_n dX11_isCell_9 rfl rfl ?_
    refine g_iconst dX11_isCell_10 (by decide) ?_
    refine g_iconst dX11_isCell_11 (by decide) ?_
    refine g_invSI (as := [.inl x1, .inl 0, .inl 5]) (rest := []) okX11_in rfl mlX11_78 rfl ⟨Nat.le_of_ble_eq_true rfl, Nat.le_of_ble_eq_true rfl⟩ (Nat.le_of_ble_eq_true rfl) rfl dX11_isCell_12 (c_X11_in) (Or.inr rfl) (fun v5 σ6 e7 => ?_)
    obtain ⟨e7a, e7b⟩ := e7; subst v5; subst σ6
    refine g_if_eq (tgt := 22) dX11_isCell_15 (by decide) (fun c8 => ?_) (fun c8 => ?_)
    · have h := h.1 (ite_no c8)
      refine g_iconst dX11_isCell_22 (by decide) ?_
      exact g_zreturn rfl dX11_isCell_23 (by decide) h
    · have h := h.2 (ite_yes c8)
      refine g_iconst dX11_isCell_18 (by decide) ?_
      refine g_goto (tgt := 23) dX11_isCell_19 (by decide) ?_
      exact g_zreturn rfl dX11_isCell_23 (by decide) h
set_option maxRecDepth 100000 in
theorem rX11_isYear_0 {x0 : Int}  {σ : Mem} {Q : Int → Mem → Prop} (h : ((((if 0 ≤ x0 ∧ x0 ≤ 3 then 1 else 0) : Int) = 0 ∨ ((if 0 ≤ x0 ∧ x0 ≤ 3 then 1 else 0) : Int) = 1) ∧ (Q (if 0 ≤ x0 ∧ x0 ≤ 3 then 1 else 0) σ))) : CM mX11_isYear [.inl x0] σ Q := by
  refine CM_of_GO (by decide +kernel) rfl (Nat.le_of_ble_eq_true rfl) ?_
  show GO none mX11_isYear 0 [some (.inl x0)] [] σ Q
  refine g_iload_n dX11_isYear_0 rfl rfl ?_
  refine g_iconst dX11_isYear_1 (by decide) ?_
  refine g_iconst dX11_isYear_2 (by decide) ?_
  refine g_invSI (as := [.inl x0, .inl 0, .inl 3]) (rest := []) okX11_in rfl mlX11_78 rfl ⟨Nat.le_of_ble_eq_true rfl, Nat.le_of_ble_eq_true rfl⟩ (Nat.le_of_ble_eq_true rfl) rfl dX11_isYear_3 (c_X11_in) (Or.inr rfl) (fun v1 σ2 e3 => ?_)
  obtain ⟨e3a, e3b⟩ := e3; subst v1; subst σ2
  obtain ⟨p4, h⟩ := h
  exact g_zreturn rfl dX11_isYear_6 p4 h
set_option maxRecDepth 100000 in
theorem rX11_isSlot_0 {x1 : Int}  {σ : Mem} {Q : Int → Mem → Prop} (h : ((inR ((σ 73 2) - 1)) ∧ (((((if 0 ≤ x1 ∧ x1 ≤ ((σ 73 2) - 1) then 1 else 0) : Int) = 0 ∨ ((if 0 ≤ x1 ∧ x1 ≤ ((σ 73 2) - 1) then 1 else 0) : Int) = 1) ∧ (Q (if 0 ≤ x1 ∧ x1 ≤ ((σ 73 2) - 1) then 1 else 0) σ))))) : CM mX11_isSlot [.inr 73, .inl x1] σ Q := by
  refine CM_of_GO (by decide +kernel) rfl (Nat.le_of_ble_eq_true rfl) ?_
  show GO none mX11_isSlot 0 [some (.inr 73), some (.inl x1)] [] σ Q
  refine g_iload_n dX11_isSlot_0 rfl rfl ?_
  refine g_iconst dX11_isSlot_1 (by decide) ?_
  refine g_aload_n dX11_isSlot_2 rfl rfl ?_
  refine g_getI flX11_82 (by decide) rfl (by decide) rfl dX11_isSlot_3 ?_
  refine g_iconst dX11_isSlot_6 (by decide) ?_
  obtain ⟨p1, h⟩ := h
  refine g_isub dX11_isSlot_7 p1 ?_
  refine g_invSI (as := [.inl x1, .inl 0, .inl ((σ 73 2) - 1)]) (rest := []) okX11_in rfl mlX11_78 rfl ⟨Nat.le_of_ble_eq_true rfl, Nat.le_of_ble_eq_true rfl⟩ (Nat.le_of_ble_eq_true rfl) rfl dX11_isSlot_8 (c_X11_in) (Or.inr rfl) (fun v2 σ3 e4 => ?_)
  obtain ⟨e4a, e4b⟩ := e4; subst v2; subst σ3
  obtain ⟨p5, h⟩ := h
  exact g_zreturn rfl dX11_isSlot_11 p5 h
set_option maxRecDepth 100000 in
theorem rX11_isShop_0 {x1 : Int}  {σ : Mem} {Q : Int → Mem → Prop} (h : ((inR ((σ 73 5) - 1)) ∧ (((((if 0 ≤ x1 ∧ x1 ≤ ((σ 73 5) - 1) then 1 else 0) : Int) = 0 ∨ ((if 0 ≤ x1 ∧ x1 ≤ ((σ 73 5) - 1) then 1 else 0) : Int) = 1) ∧ (Q (if 0 ≤ x1 ∧ x1 ≤ ((σ 73 5) - 1) then 1 else 0) σ))))) : CM mX11_isShop [.inr 73, .inl x1] σ Q := by
  refine CM_of_GO (by decide +kernel) rfl (Nat.le_of_ble_eq_true rfl) ?_
  show GO none mX11_isShop 0 [some (.inr 73), some (.inl x1)] [] σ Q
  refine g_iload_n dX11_isShop_0 rfl rfl ?_
  refine g_iconst dX11_isShop_1 (by decide) ?_
  refine g_aload_n dX11_isShop_2 rfl rfl ?_
  refine g_getI flX11_85 (by decide) rfl (by decide) rfl dX11_isShop_3 ?_
  refine g_iconst dX11_isShop_6 (by decide) ?_
  obtain ⟨p1, h⟩ := h
  refine g_isub dX11_isShop_7 p1 ?_
  refine g_invSI (as := [.inl x1, .inl 0, .inl ((σ 73 5) - 1)]) (rest := []) okX11_in rfl mlX11_78 rfl ⟨Nat.le_of_ble_eq_true rfl, Nat.le_of_ble_eq_true rfl⟩ (Nat.le_of_ble_eq_true rfl) rfl dX11_isShop_8 (c_X11_in) (Or.inr rfl) (fun v2 σ3 e4 => ?_)
  obtain ⟨e4a, e4b⟩ := e4; subst v2; subst σ3
  obtain ⟨p5, h⟩ := h
  exact g_zreturn rfl dX11_isShop_11 p5 h
theorem c_X11_isCell {σ : Mem} {x y : Int} : CM mX11_isCell [.inl x, .inl y] σ (fun v σ1 => v = (if 0 ≤ x ∧ x < 6 ∧ 0 ≤ y ∧ y < 6 then 1 else 0) ∧ σ1 = σ) :=
  rX11_isCell_0 ⟨fun h => ⟨by rw [if_neg (by omega)], rfl⟩, fun h => ⟨fun h2 => ⟨by rw [if_neg (by omega)], rfl⟩, fun h2 => ⟨by rw [if_pos (by omega)], rfl⟩⟩⟩
theorem ite_01 {p : Prop} [Decidable p] : (if p then (1 : Int) else 0) = 0 ∨ (if p then (1 : Int) else 0) = 1 := by split <;> omega
theorem ite_iff {p q : Prop} [Decidable p] [Decidable q] (h : p ↔ q) : (if p then (1 : Int) else 0) = (if q then (1 : Int) else 0) := by
  by_cases e : p
  · rw [if_pos e, if_pos (h.mp e)]
  · rw [if_neg e, if_neg (fun z => e (h.mpr z))]
theorem c_X11_isYear {σ : Mem} {x : Int} : CM mX11_isYear [.inl x] σ (fun v σ1 => v = (if 0 ≤ x ∧ x < 4 then 1 else 0) ∧ σ1 = σ) := rX11_isYear_0 ⟨ite_01, ite_iff (by omega), rfl⟩
theorem c_X11_isSlot {σ : Mem} {x : Int} (h : inR ((σ 73 2) - 1)) : CM mX11_isSlot [.inr 73, .inl x] σ (fun v σ1 => v = (if 0 ≤ x ∧ x < σ 73 2 then 1 else 0) ∧ σ1 = σ) := rX11_isSlot_0 ⟨h, ite_01, ite_iff (by omega), rfl⟩
theorem c_X11_isShop {σ : Mem} {x : Int} (h : inR ((σ 73 5) - 1)) : CM mX11_isShop [.inr 73, .inl x] σ (fun v σ1 => v = (if 0 ≤ x ∧ x < σ 73 5 then 1 else 0) ∧ σ1 = σ) := rX11_isShop_0 ⟨h, ite_01, ite_iff (by omega), rfl⟩
def bsD (c w : Nat) : Int := if w = 0 then nRt c else if w = 1 then nL c else if w = 2 then nDn c else nU c
theorem bsD_adj {c w d : Nat} (h : (d : Int) = bsD c w) : adj c d := by
  unfold bsD at h
  unfold adj
  split at h
  · exact Or.inr (Or.inl h)
  · split at h
    · exact Or.inl h
    · split at h
      · exact Or.inr (Or.inr (Or.inr h))
      · exact Or.inr (Or.inr (Or.inl h))
theorem bsD_all {c d : Nat} (h : adj c d) : ∃ w, w < 4 ∧ (d : Int) = bsD c w := by
  rcases h with h | h | h | h
  · exact ⟨1, by omega, h⟩
  · exact ⟨0, by omega, h⟩
  · exact ⟨3, by omega, h⟩
  · exact ⟨2, by omega, h⟩
theorem c_X11_beside {c w : Nat} {x0 x1 : Int} {σ : Mem} (hc : c < 36) (hw : w < 4) (e0 : x0 = c) (e1 : x1 = w) : CM mX11_beside [.inl x0, .inl x1] σ (fun v σ1 => v = bsD c w ∧ σ1 = σ) := by
  subst e0 e1
  refine rX11_beside_0 ?_
  rw [Int.tmod_eq_emod_of_nonneg (by omega), Int.tdiv_eq_ediv_of_nonneg (by omega)]
  rcases (show w = 0 ∨ w = 1 ∨ w = 2 ∨ w = 3 by omega) with rfl | rfl | rfl | rfl
  · refine ⟨fun h => absurd rfl h, fun _ => ⟨fun h => ⟨?_, rfl⟩, fun h => ⟨fun h2 => absurd rfl h2, fun _ => ⟨by omega, ?_, rfl⟩⟩⟩⟩
    · show -1 = nRt c
      unfold nRt; rw [if_neg (by omega)]
    · show (c : Int) + 1 = nRt c
      unfold nRt; rw [if_pos (by omega)]
  · refine ⟨fun _ => ⟨fun h => absurd rfl h, fun _ => ⟨fun h => ⟨?_, rfl⟩, fun h => ⟨fun _ => ⟨fun h2 => absurd rfl h2, fun _ => ⟨by omega, ?_, rfl⟩⟩, fun h2 => by omega⟩⟩⟩, fun h => by omega⟩
    · show -1 = nL c
      unfold nL; rw [if_neg (by omega)]
    · show (c : Int) - 1 = nL c
      unfold nL; rw [if_pos (by omega)]
  · refine ⟨fun _ => ⟨fun _ => ⟨fun h => absurd rfl h, fun _ => ⟨fun h => ⟨?_, rfl⟩, fun h => ⟨fun _ => ⟨fun _ => ⟨fun h2 => absurd rfl h2, fun _ => ⟨by omega, ?_, rfl⟩⟩, fun h2 => by omega⟩, fun h2 => by omega⟩⟩⟩, fun h => by omega⟩, fun h => by omega⟩
    · show -1 = nDn c
      unfold nDn; rw [if_neg (by omega)]
    · show (c : Int) + 6 = nDn c
      unfold nDn; rw [if_pos (by omega)]
  · refine ⟨fun _ => ⟨fun _ => ⟨fun _ => ⟨fun h => ⟨?_, rfl⟩, fun h => ⟨fun _ => ⟨fun _ => ⟨fun _ => ⟨by omega, ?_, rfl⟩, fun h2 => by omega⟩, fun h2 => by omega⟩, fun h2 => by omega⟩⟩, fun h => by omega⟩, fun h => by omega⟩, fun h => by omega⟩
    · show -1 = nU c
      unfold nU; rw [if_neg (by omega)]
    · show (c : Int) - 6 = nU c
      unfold nU; rw [if_pos (by omega)]
/-- a cell's kind in both -/
def KR (k a e : Int) : Prop := (k = 0 ∧ a = -1 ∧ e = 0) ∨ (k = 1 ∧ a = -2 ∧ e = 0) ∨ (k = 2 ∧ 0 ≤ a ∧ e = 0) ∨ (k = 3 ∧ a = -1 ∧ e = 1)
def MI (Z : Zt) (σ : Mem) : Prop := (∀ c, c < 36 → KR (zK Z c) (σ 74 c) (σ 75 c)) ∧ σ 76 = zC Z ∧ σ 73 2 = dn (zD Z) ∧ σ 73 4 = dB (zD Z) ∧ σ 73 5 = dm (zD Z) ∧ σ 73 9 = dwn (zD Z) ∧ hld σ 77 (zh Z) ∧ σ 78 = dL (zD Z) ∧ σ 79 = dV (zD Z) ∧ σ 80 = dwa (zD Z) ∧ σ 81 = dwb (zD Z) ∧ σ 82 = dwe (zD Z) ∧ σ 83 = dwd (zD Z)
theorem MI.kr {Z : Zt} {σ : Mem} (h : MI Z σ) : ∀ c, c < 36 → KR (zK Z c) (σ 74 c) (σ 75 c) := h.1
theorem MI.c {Z : Zt} {σ : Mem} (h : MI Z σ) : σ 76 = zC Z := h.2.1
theorem MI.n {Z : Zt} {σ : Mem} (h : MI Z σ) : σ 73 2 = dn (zD Z) := h.2.2.1
theorem MI.b {Z : Zt} {σ : Mem} (h : MI Z σ) : σ 73 4 = dB (zD Z) := h.2.2.2.1
theorem MI.m {Z : Zt} {σ : Mem} (h : MI Z σ) : σ 73 5 = dm (zD Z) := h.2.2.2.2.1
theorem MI.w {Z : Zt} {σ : Mem} (h : MI Z σ) : σ 73 9 = dwn (zD Z) := h.2.2.2.2.2.1
theorem MI.h {Z : Zt} {σ : Mem} (h : MI Z σ) : hld σ 77 (zh Z) := h.2.2.2.2.2.2.1
theorem MI.l {Z : Zt} {σ : Mem} (h : MI Z σ) : σ 78 = dL (zD Z) := h.2.2.2.2.2.2.2.1
theorem MI.v {Z : Zt} {σ : Mem} (h : MI Z σ) : σ 79 = dV (zD Z) := h.2.2.2.2.2.2.2.2.1
theorem MI.wa {Z : Zt} {σ : Mem} (h : MI Z σ) : σ 80 = dwa (zD Z) := h.2.2.2.2.2.2.2.2.2.1
theorem MI.wb {Z : Zt} {σ : Mem} (h : MI Z σ) : σ 81 = dwb (zD Z) := h.2.2.2.2.2.2.2.2.2.2.1
theorem MI.we {Z : Zt} {σ : Mem} (h : MI Z σ) : σ 82 = dwe (zD Z) := h.2.2.2.2.2.2.2.2.2.2.2.1
theorem MI.wd {Z : Zt} {σ : Mem} (h : MI Z σ) : σ 83 = dwd (zD Z) := h.2.2.2.2.2.2.2.2.2.2.2.2
/-- the reference's memory of what it works with stays; 73's places 2, 4, 5, 9 too -/
def MSm (S : List Nat) (σ σ1 : Mem) : Prop := Same (73 :: S) σ σ1 ∧ ∀ j, j < 10 → σ1 73 j = σ 73 j
theorem MSm.rf {S : List Nat} {σ : Mem} : MSm S σ σ := ⟨Same.rf, fun _ _ => rfl⟩
theorem MSm.tr {S : List Nat} {σ σ1 σ2 : Mem} (h : MSm S σ σ1) (h2 : MSm S σ1 σ2) : MSm S σ σ2 := ⟨h.1.tr h2.1, fun j hj => (h2.2 j hj).trans (h.2 j hj)⟩
theorem MSm.wk {S S' : List Nat} {σ σ1 : Mem} (h : MSm S σ σ1) (hs : ∀ a ∈ S, a ∈ S') : MSm S' σ σ1 := ⟨h.1.wk (fun a ha => (List.mem_cons.mp ha).elim (fun e => List.mem_cons.mpr (Or.inl e)) (fun q => List.mem_cons_of_mem _ (hs a q))), h.2⟩
theorem MSm.up {S : List Nat} {σ : Mem} {k j : Nat} {v : Int} (hk : k ∈ S) (h73 : k ≠ 73) : MSm S σ (mu σ k j v) := ⟨Same.mu (List.mem_cons_of_mem _ hk), fun i _ => by rw [mu_nef (fun e => h73 e.symm)]⟩
theorem MSm.up73 {S : List Nat} {σ : Mem} {j : Nat} {v : Int} (hj : 10 ≤ j) : MSm S σ (mu σ 73 j v) := ⟨Same.mu (List.mem_cons_self ..), fun i hi => mu_atn (by omega)⟩
theorem MSm.same {S : List Nat} {σ σ1 : Mem} (h : Same S σ σ1) (h73 : 73 ∉ S) : MSm S σ σ1 := ⟨h.wk (fun a ha => List.mem_cons_of_mem _ ha), fun j _ => by rw [h 73 h73]⟩
theorem MI.same {Z : Zt} {S : List Nat} {σ σ1 : Mem} (h : MI Z σ) (hS : MSm S σ σ1) (hn : ∀ a ∈ S, a ∉ [74, 75, 76, 77, 78, 79, 80, 81, 82, 83]) : MI Z σ1 := by
  have e : ∀ a, a ∈ [74, 75, 76, 77, 78, 79, 80, 81, 82, 83] → σ1 a = σ a := fun a ha => hS.1 a (fun q => by
    rcases List.mem_cons.mp q with q | q
    · rw [q] at ha; exact absurd ha (by decide)
    · exact hn a q ha)
  refine ⟨fun c hc => by rw [e 74 (by decide), e 75 (by decide)]; exact h.kr c hc, by rw [e 76 (by decide)]; exact h.c, by rw [hS.2 2 (by omega)]; exact h.n, by rw [hS.2 4 (by omega)]; exact h.b, by rw [hS.2 5 (by omega)]; exact h.m, by rw [hS.2 9 (by omega)]; exact h.w, h.h.cong (e 77 (by decide)), by rw [e 78 (by decide)]; exact h.l, by rw [e 79 (by decide)]; exact h.v, by rw [e 80 (by decide)]; exact h.wa, by rw [e 81 (by decide)]; exact h.wb, by rw [e 82 (by decide)]; exact h.we, by rw [e 83 (by decide)]; exact h.wd⟩
set_option maxRecDepth 100000 in
theorem rX11_walk_0 {x1 : Int}  {σ : Mem} {Q : Int → Mem → Prop} (h : GO none mX11_walk 2 [some (.inr 73), some (.inl x1), some (.inl 0), none, none, none, none] [] σ Q) : CM mX11_walk [.inr 73, .inl x1] σ Q := by
  refine CM_of_GO (by decide +kernel) rfl (Nat.le_of_ble_eq_true rfl) ?_
  show GO none mX11_walk 0 [some (.inr 73), some (.inl x1), none, none, none, none, none] [] σ Q
  refine g_iconst dX11_walk_0 (by decide) ?_
  refine g_istore_n (ls' := [some (.inr 73), some (.inl x1), some (.inl 0), none, none, none, none]) dX11_walk_1 rfl (by decide) rfl ?_
  exact h
set_option maxRecDepth 100000 in
theorem rX11_walk_2 {x1 x2 : Int}  {σ : Mem} {Q : Int → Mem → Prop} (h : (36 ≤ x2 → ((0 ≤ x1) ∧ (((x1 < 6) ∧ (((0 ≤ (σ 76 (x1).toNat)) ∧ ((((σ 76 (x1).toNat) < 36) ∧ (GO none mX11_walk 49 [some (.inr 73), some (.inl x1), some (.inl 1), some (.inl 0), none, none, none] [] (mu (mu σ 84 ((σ 76 (x1).toNat)).toNat 0) 85 0 (σ 76 (x1).toNat)) Q))))))))) ∧ (x2 < 36 → ((0 ≤ x2) ∧ (((inR (x2 + 1)) ∧ (GO none mX11_walk 2 [some (.inr 73), some (.inl x1), some (.inl (x2 + 1)), none, none, none, none] [] (mu σ 84 (x2).toNat (-1)) Q)))))) : GO none mX11_walk 2 [some (.inr 73), some (.inl x1), some (.inl x2), none, none, none, none] [] σ Q := by
  refine g_iload_n dX11_walk_2 rfl rfl ?_
  refine g_bipush dX11_walk_3 (by decide) (by decide) ?_
  refine g_icmp_ge (tgt := 21) dX11_walk_5 (by decide) (fun c1 => ?_) (fun c1 => ?_)
  · have h := h.1 c1
    refine g_aload_n dX11_walk_21 rfl rfl ?_
    refine g_getR (r' := 84) flX11_45 (by decide) rfl (by decide) rfl dX11_walk_22 ?_
    refine g_aload_n dX11_walk_25 rfl rfl ?_
    refine g_getR (r' := 76) flX11_17 (by decide) rfl (by decide) rfl dX11_walk_26 ?_
    refine g_iload_n dX11_walk_29 rfl rfl ?_
    obtain ⟨p2, h⟩ := h
    obtain ⟨p3, h⟩ := h
    refine g_iald (by decide) rfl p2 p3 dX11_walk_30 ?_
    refine g_iconst dX11_walk_31 (by decide) ?_
    obtain ⟨p4, h⟩ := h
    obtain ⟨p5, h⟩ := h
    refine g_iast (by decide) rfl p4 p5 dX11_walk_32 ?_
    refine g_aload_n dX11_walk_33 rfl rfl ?_
    refine g_getR (r' := 85) flX11_48 (by decide) rfl (by decide) rfl dX11_walk_34 ?_
    refine g_iconst dX11_walk_37 (by decide) ?_
    refine g_aload_n dX11_walk_38 rfl rfl ?_
    refine g_getR (r' := 76) flX11_17 (by decide) rfl (by decide) rfl dX11_walk_39 ?_
    refine g_iload_n dX11_walk_42 rfl rfl ?_
    refine g_iald (by decide) rfl p2 p3 dX11_walk_43 ?_
    refine g_top (w := (σ 76 (x1).toNat)) rfl ?_
    refine g_iast (by decide) rfl (by decide) (by decide) dX11_walk_44 ?_
    refine g_iconst dX11_walk_45 (by decide) ?_
    refine g_istore_n (ls' := [some (.inr 73), some (.inl x1), some (.inl 1), none, none, none, none]) dX11_walk_46 rfl (by decide) rfl ?_
    refine g_iconst dX11_walk_47 (by decide) ?_
    refine g_istore_n (ls' := [some (.inr 73), some (.inl x1), some (.inl 1), some (.inl 0), none, none, none]) dX11_walk_48 rfl (by decide) rfl ?_
    exact h
  · have h := h.2 c1
    refine g_aload_n dX11_walk_8 rfl rfl ?_
    refine g_getR (r' := 84) flX11_45 (by decide) rfl (by decide) rfl dX11_walk_9 ?_
    refine g_iload_n dX11_walk_12 rfl rfl ?_
    refine g_iconst dX11_walk_13 (by decide) ?_
    obtain ⟨p6, h⟩ := h
    refine g_iast (by decide) rfl p6 c1 dX11_walk_14 ?_
    obtain ⟨p7, h⟩ := h
    refine g_iinc (ls' := [some (.inr 73), some (.inl x1), some (.inl (x2 + 1)), none, none, none, none]) dX11_walk_15 (by decide) rfl p7 rfl ?_
    refine g_goto (tgt := 2) dX11_walk_18 (by decide) ?_
    exact h
set_option maxRecDepth 100000 in
theorem rX11_walk_49 {x1 x2 x3 : Int}  {σ : Mem} {Q : Int → Mem → Prop} (h : (x2 ≤ x3 → Q 0 σ) ∧ (x3 < x2 → ((0 ≤ x3) ∧ (((x3 < 36) ∧ (GO none mX11_walk 65 [some (.inr 73), some (.inl x1), some (.inl x2), some (.inl x3), some (.inl (σ 85 (x3).toNat)), some (.inl 0), none] [] σ Q)))))) : GO none mX11_walk 49 [some (.inr 73), some (.inl x1), some (.inl x2), some (.inl x3), none, none, none] [] σ Q := by
  refine g_iload_n dX11_walk_49 rfl rfl ?_
  refine g_iload_n dX11_walk_50 rfl rfl ?_
  refine g_icmp_ge (tgt := 159) dX11_walk_51 (by decide) (fun c1 => ?_) (fun c1 => ?_)
  · have h := h.1 c1
    exact g_return rfl dX11_walk_159 h
  · have h := h.2 c1
    refine g_aload_n dX11_walk_54 rfl rfl ?_
    refine g_getR (r' := 85) flX11_48 (by decide) rfl (by decide) rfl dX11_walk_55 ?_
    refine g_iload_n dX11_walk_58 rfl rfl ?_
    obtain ⟨p2, h⟩ := h
    obtain ⟨p3, h⟩ := h
    refine g_iald (by decide) rfl p2 p3 dX11_walk_59 ?_
    refine g_istore (ls' := [some (.inr 73), some (.inl x1), some (.inl x2), some (.inl x3), some (.inl (σ 85 (x3).toNat)), none, none]) dX11_walk_60 (by decide) rfl ?_
    refine g_iconst dX11_walk_62 (by decide) ?_
    refine g_istore (ls' := [some (.inr 73), some (.inl x1), some (.inl x2), some (.inl x3), some (.inl (σ 85 (x3).toNat)), some (.inl 0), none]) dX11_walk_63 (by decide) rfl ?_
    exact h
set_option maxRecDepth 100000 in
theorem rX11_walk_65 {x1 x2 x3 x4 x5 : Int}  {σ : Mem} {Q : Int → Mem → Prop} (h : (4 ≤ x5 → ((inR (x3 + 1)) ∧ (GO none mX11_walk 49 [some (.inr 73), some (.inl x1), some (.inl x2), some (.inl (x3 + 1)), none, none, none] [] σ Q))) ∧ (x5 < 4 → CM mX11_beside [.inl x4, .inl x5] σ (fun v3 σ4 => (v3 = (-1) → ((inR (x5 + 1)) ∧ (GO none mX11_walk 65 [some (.inr 73), some (.inl x1), some (.inl x2), some (.inl x3), some (.inl x4), some (.inl (x5 + 1)), none] [] σ4 Q))) ∧ (v3 ≠ (-1) → ((0 ≤ v3) ∧ (((v3 < 36) ∧ (((σ4 84 (v3).toNat) ≠ (-1) → ((inR (x5 + 1)) ∧ (GO none mX11_walk 65 [some (.inr 73), some (.inl x1), some (.inl x2), some (.inl x3), some (.inl x4), some (.inl (x5 + 1)), none] [] σ4 Q))) ∧ ((σ4 84 (v3).toNat) = (-1) → ((σ4 74 (v3).toNat) = (-2) → ((inR (x5 + 1)) ∧ (GO none mX11_walk 65 [some (.inr 73), some (.inl x1), some (.inl x2), some (.inl x3), some (.inl x4), some (.inl (x5 + 1)), none] [] σ4 Q))) ∧ ((σ4 74 (v3).toNat) ≠ (-2) → ((0 ≤ x4) ∧ (((x4 < 36) ∧ (((inR ((σ4 84 (x4).toNat) + 1)) ∧ (((σ4 74 (v3).toNat) ≠ (-1) → ((inR (x5 + 1)) ∧ (GO none mX11_walk 65 [some (.inr 73), some (.inl x1), some (.inl x2), some (.inl x3), some (.inl x4), some (.inl (x5 + 1)), none] [] (mu σ4 84 (v3).toNat ((σ4 84 (x4).toNat) + 1)) Q))) ∧ ((σ4 74 (v3).toNat) = (-1) → ((0 ≤ x2) ∧ (((x2 < 36) ∧ (((inR (x2 + 1)) ∧ (((inR (x5 + 1)) ∧ (GO none mX11_walk 65 [some (.inr 73), some (.inl x1), some (.inl (x2 + 1)), some (.inl x3), some (.inl x4), some (.inl (x5 + 1)), none] [] (mu (mu σ4 84 (v3).toNat ((σ4 84 (x4).toNat) + 1)) 85 (x2).toNat v3) Q))))))))))))))))))))))))) : GO none mX11_walk 65 [some (.inr 73), some (.inl x1), some (.inl x2), some (.inl x3), some (.inl x4), some (.inl x5), none] [] σ Q := by
  refine g_iload dX11_walk_65 rfl ?_
  refine g_iconst dX11_walk_67 (by decide) ?_
  refine g_icmp_ge (tgt := 153) dX11_walk_68 (by decide) (fun c1 => ?_) (fun c1 => ?_)
  · have h := h.1 c1
    obtain ⟨p2, h⟩ := h
    refine g_iinc (ls' := [some (.inr 73), some (.inl x1), some (.inl x2), some (.inl (x3 + 1)), some (.inl x4), some (.inl x5), none]) dX11_walk_153 (by decide) rfl p2 rfl ?_
    refine g_goto (tgt := 49) dX11_walk_156 (by decide) ?_
    refine g_kill (i := 4) (ls' := [some (.inr 73), some (.inl x1), some (.inl x2), some (.inl (x3 + 1)), none, some (.inl x5), none]) rfl ?_
    refine g_kill (i := 5) (ls' := [some (.inr 73), some (.inl x1), some (.inl x2), some (.inl (x3 + 1)), none, none, none]) rfl ?_
    exact h
  · have h := h.2 c1
    refine g_iload dX11_walk_71 rfl ?_
    refine g_iload dX11_walk_73 rfl ?_
    refine g_invSI (as := [.inl x4, .inl x5]) (rest := []) okX11_beside rfl mlX11_92 rfl ⟨Nat.le_of_ble_eq_true rfl, Nat.le_of_ble_eq_true rfl⟩ (Nat.le_of_ble_eq_true rfl) rfl dX11_walk_75 h (Or.inl rfl) (fun v3 σ4 e5 => ?_)
    have h := e5
    refine g_istore (ls' := [some (.inr 73), some (.inl x1), some (.inl x2), some (.inl x3), some (.inl x4), some (.inl x5), some (.inl v3)]) dX11_walk_78 (by decide) rfl ?_
    refine g_iload dX11_walk_80 rfl ?_
    refine g_iconst dX11_walk_82 (by decide) ?_
    refine g_icmp_eq (tgt := 147) dX11_walk_83 (by decide) (fun c6 => ?_) (fun c6 => ?_)
    · have h := h.1 c6
      obtain ⟨p7, h⟩ := h
      refine g_iinc (ls' := [some (.inr 73), some (.inl x1), some (.inl x2), some (.inl x3), some (.inl x4), some (.inl (x5 + 1)), some (.inl v3)]) dX11_walk_147 (by decide) rfl p7 rfl ?_
      refine g_goto (tgt := 65) dX11_walk_150 (by decide) ?_
      refine g_kill (i := 6) (ls' := [some (.inr 73), some (.inl x1), some (.inl x2), some (.inl x3), some (.inl x4), some (.inl (x5 + 1)), none]) rfl ?_
      exact h
    · have h := h.2 c6
      refine g_aload_n dX11_walk_86 rfl rfl ?_
      refine g_getR (r' := 84) flX11_45 (by decide) rfl (by decide) rfl dX11_walk_87 ?_
      refine g_iload dX11_walk_90 rfl ?_
      obtain ⟨p8, h⟩ := h
      obtain ⟨p9, h⟩ := h
      refine g_iald (by decide) rfl p8 p9 dX11_walk_92 ?_
      refine g_iconst dX11_walk_93 (by decide) ?_
      refine g_icmp_ne (tgt := 147) dX11_walk_94 (by decide) (fun c10 => ?_) (fun c10 => ?_)
      · have h := h.1 c10
        obtain ⟨p11, h⟩ := h
        refine g_iinc (ls' := [some (.inr 73), some (.inl x1), some (.inl x2), some (.inl x3), some (.inl x4), some (.inl (x5 + 1)), some (.inl v3)]) dX11_walk_147 (by decide) rfl p11 rfl ?_
        refine g_goto (tgt := 65) dX11_walk_150 (by decide) ?_
        refine g_kill (i := 6) (ls' := [some (.inr 73), some (.inl x1), some (.inl x2), some (.inl x3), some (.inl x4), some (.inl (x5 + 1)), none]) rfl ?_
        exact h
      · have h := h.2 c10
        refine g_aload_n dX11_walk_97 rfl rfl ?_
        refine g_getR (r' := 74) flX11_7 (by decide) rfl (by decide) rfl dX11_walk_98 ?_
        refine g_iload dX11_walk_101 rfl ?_
        refine g_iald (by decide) rfl p8 p9 dX11_walk_103 ?_
        refine g_bipush dX11_walk_104 (by decide) (by decide) ?_
        refine g_icmp_eq (tgt := 147) dX11_walk_106 (by decide) (fun c12 => ?_) (fun c12 => ?_)
        · have h := h.1 c12
          obtain ⟨p13, h⟩ := h
          refine g_iinc (ls' := [some (.inr 73), some (.inl x1), some (.inl x2), some (.inl x3), some (.inl x4), some (.inl (x5 + 1)), some (.inl v3)]) dX11_walk_147 (by decide) rfl p13 rfl ?_
          refine g_goto (tgt := 65) dX11_walk_150 (by decide) ?_
          refine g_kill (i := 6) (ls' := [some (.inr 73), some (.inl x1), some (.inl x2), some (.inl x3), some (.inl x4), some (.inl (x5 + 1)), none]) rfl ?_
          exact h
        · have h := h.2 c12
          refine g_aload_n dX11_walk_109 rfl rfl ?_
          refine g_getR (r' := 84) flX11_45 (by decide) rfl (by decide) rfl dX11_walk_110 ?_
          refine g_iload dX11_walk_113 rfl ?_
          refine g_aload_n dX11_walk_115 rfl rfl ?_
          refine g_getR (r' := 84) flX11_45 (by decide) rfl (by decide) rfl dX11_walk_116 ?_
          refine g_iload dX11_walk_119 rfl ?_
          obtain ⟨p14, h⟩ := h
          obtain ⟨p15, h⟩ := h
          refine g_iald (by decide) rfl p14 p15 dX11_walk_121 ?_
          refine g_iconst dX11_walk_122 (by decide) ?_
          obtain ⟨p16, h⟩ := h
          refine g_iadd dX11_walk_123 p16 ?_
          refine g_iast (by decide) rfl p8 p9 dX11_walk_124 ?_
          refine g_aload_n dX11_walk_125 rfl rfl ?_
          refine g_getR (r' := 74) flX11_7 (by decide) rfl (by decide) rfl dX11_walk_126 ?_
          refine g_iload dX11_walk_129 rfl ?_
          refine g_iald (by decide) rfl p8 p9 dX11_walk_131 ?_
          refine g_top (w := (σ4 74 (v3).toNat)) rfl ?_
          refine g_iconst dX11_walk_132 (by decide) ?_
          refine g_icmp_ne (tgt := 147) dX11_walk_133 (by decide) (fun c17 => ?_) (fun c17 => ?_)
          · have h := h.1 c17
            obtain ⟨p18, h⟩ := h
            refine g_iinc (ls' := [some (.inr 73), some (.inl x1), some (.inl x2), some (.inl x3), some (.inl x4), some (.inl (x5 + 1)), some (.inl v3)]) dX11_walk_147 (by decide) rfl p18 rfl ?_
            refine g_goto (tgt := 65) dX11_walk_150 (by decide) ?_
            refine g_kill (i := 6) (ls' := [some (.inr 73), some (.inl x1), some (.inl x2), some (.inl x3), some (.inl x4), some (.inl (x5 + 1)), none]) rfl ?_
            exact h
          · have h := h.2 c17
            refine g_aload_n dX11_walk_136 rfl rfl ?_
            refine g_getR (r' := 85) flX11_48 (by decide) rfl (by decide) rfl dX11_walk_137 ?_
            refine g_iload_n dX11_walk_140 rfl rfl ?_
            refine g_iload dX11_walk_141 rfl ?_
            obtain ⟨p19, h⟩ := h
            obtain ⟨p20, h⟩ := h
            refine g_iast (by decide) rfl p19 p20 dX11_walk_143 ?_
            obtain ⟨p21, h⟩ := h
            refine g_iinc (ls' := [some (.inr 73), some (.inl x1), some (.inl (x2 + 1)), some (.inl x3), some (.inl x4), some (.inl x5), some (.inl v3)]) dX11_walk_144 (by decide) rfl p21 rfl ?_
            obtain ⟨p22, h⟩ := h
            refine g_iinc (ls' := [some (.inr 73), some (.inl x1), some (.inl (x2 + 1)), some (.inl x3), some (.inl x4), some (.inl (x5 + 1)), some (.inl v3)]) dX11_walk_147 (by decide) rfl p22 rfl ?_
            refine g_goto (tgt := 65) dX11_walk_150 (by decide) ?_
            refine g_kill (i := 6) (ls' := [some (.inr 73), some (.inl x1), some (.inl (x2 + 1)), some (.inl x3), some (.inl x4), some (.inl (x5 + 1)), none]) rfl ?_
            exact h
theorem c_X11_walk {Z : Zt} {σ : Mem} {a : Nat} {x : Int} (hZ : GZ Z) (hM : MI Z σ) (ha : a < dn (zD Z)) (ex : x = a) : CM mX11_walk [.inr 73, .inl x] σ (fun _ σ1 => IsD (cI (zK Z)) (sI (zK Z)) (zC Z a).toNat (σ1 84) ∧ Same [84, 85] σ σ1) := by
  subst ex
  have hn6 := hZ.n6
  have hga := hZ.gc a ha
  obtain ⟨s0, es⟩ : ∃ s0 : Nat, zC Z a = s0 := ⟨(zC Z a).toNat, by omega⟩
  rw [es, Int.toNat_natCast]
  have hs0 : s0 < 36 := by omega
  have inner : ∀ (d w i : Nat) (L : List Nat) (v : Int) (σ0 : Mem), w + d = 4 → BJ (cI (zK Z)) (sI (zK Z)) s0 i L (σ0 84) (fun e => ∃ u, u < w ∧ (e : Int) = bsD (pg L i) u) v → hld σ0 85 L → i < L.length → Same [84, 85] σ σ0 → (∀ L' σ1 v', BJ (cI (zK Z)) (sI (zK Z)) s0 (i + 1) L' (σ1 84) (fun _ => False) v' → hld σ1 85 L' → Same [84, 85] σ σ1 → i < L'.length → GO none mX11_walk 49 [some (.inr 73), some (.inl (a : Int)), some (.inl (L'.length : Int)), some (.inl ((i : Int) + 1)), none, none, none] [] σ1 (fun _ σ1 => IsD (cI (zK Z)) (sI (zK Z)) s0 (σ1 84) ∧ Same [84, 85] σ σ1)) → GO none mX11_walk 65 [some (.inr 73), some (.inl (a : Int)), some (.inl (L.length : Int)), some (.inl (i : Int)), some (.inl (pg L i : Int)), some (.inl (w : Int)), none] [] σ0 (fun _ σ1 => IsD (cI (zK Z)) (sI (zK Z)) s0 (σ1 84) ∧ Same [84, 85] σ σ1) := by
    intro d
    induction d with
    | zero =>
      intro w i L v σ0 hd hB hq hi hS k
      have hl := nd_len hB.nd hB.lt
      refine rX11_walk_65 ⟨fun _ => ⟨by omega, ?_⟩, fun h => by omega⟩
      obtain ⟨v', hv'⟩ := hB.next hi (fun e he => by
        obtain ⟨u, hu, e2⟩ := bsD_all he
        exact ⟨u, by omega, e2⟩)
      exact k L σ0 v' hv' hq hS hi
    | succ d ih =>
      intro w i L v σ0 hd hB hq hi hS k
      have hl := nd_len hB.nd hB.lt
      have hc := hB.cell hi
      have hvb := hB.vb
      refine rX11_walk_65 ⟨fun h => by omega, fun _ => ?_⟩
      refine CM.mono (fun b σ1 hb => ?_) (c_X11_beside (c := pg L i) (w := w) hc.1 (by omega) rfl rfl)
      obtain ⟨rfl, rfl⟩ := hb
      have e74 : σ1 74 = σ 74 := hS 74 (by decide)
      have wkP : ∀ e : Nat, (∃ u, u < w + 1 ∧ (e : Int) = bsD (pg L i) u) → (∃ u, u < w ∧ (e : Int) = bsD (pg L i) u) ∨ (e : Int) = bsD (pg L i) w := fun e ⟨u, hu, e2⟩ => by
        by_cases q : u = w
        · rw [q] at e2; exact Or.inr e2
        · exact Or.inl ⟨u, by omega, e2⟩
      refine ⟨fun hm => ⟨by omega, ?_⟩, fun hm => ?_⟩
      · exact ih (w + 1) i L v σ1 (by omega) (hB.wk (fun e he => (wkP e he).elim id (fun q => by omega))) hq hi hS k
      · have hb0 : 0 ≤ bsD (pg L i) w := by
          unfold bsD nL nRt nU nDn at hm ⊢
          split at hm <;> rename_i h1
          · rw [if_pos h1]; split at hm <;> rename_i h2
            · rw [if_pos h2]; omega
            · exact absurd rfl hm
          · rw [if_neg h1]
            split at hm <;> rename_i h3
            · rw [if_pos h3]; split at hm <;> rename_i h2
              · rw [if_pos h2]; omega
              · exact absurd rfl hm
            · rw [if_neg h3]
              split at hm <;> rename_i h4
              · rw [if_pos h4]; split at hm <;> rename_i h2
                · rw [if_pos h2]; omega
                · exact absurd rfl hm
              · rw [if_neg h4]; split at hm <;> rename_i h2
                · rw [if_pos h2]; omega
                · exact absurd rfl hm
        obtain ⟨e, he⟩ : ∃ e : Nat, bsD (pg L i) w = e := ⟨(bsD (pg L i) w).toNat, by omega⟩
        have hadj := bsD_adj he.symm
        have he6 := adj_lt hadj hc.1
        have hkr := hM.kr e he6
        have wkP2 : ∀ z : Nat, (∃ u, u < w + 1 ∧ (z : Int) = bsD (pg L i) u) → (∃ u, u < w ∧ (z : Int) = bsD (pg L i) u) ∨ z = e := fun z hz => (wkP z hz).imp id (fun q => by omega)
        rw [he, Int.toNat_natCast, e74, Int.toNat_natCast, hB.cv hi]
        refine ⟨by omega, by omega, fun h1 => ⟨by omega, ?_⟩, fun h1 => ⟨fun h2 => ⟨by omega, ?_⟩, fun h2 => ⟨by omega, by omega, by omega, fun h3 => ⟨by omega, ?_⟩, fun h3 => ⟨by omega, ?_, by omega, by omega, ?_⟩⟩⟩⟩
        · exact ih (w + 1) i L v σ1 (by omega) ((hB.skip he6 (Or.inl h1)).wk wkP2) hq hi hS k
        · have : cI (zK Z) e := by
            unfold cI
            unfold KR at hkr
            omega
          exact ih (w + 1) i L v σ1 (by omega) ((hB.skip he6 (Or.inr this)).wk wkP2) hq hi hS k
        · have hcol : ¬ cI (zK Z) e := by
            unfold cI
            unfold KR at hkr
            omega
          have hslt : sI (zK Z) e := by
            unfold sI
            unfold KR at hkr
            omega
          have hn := (hB.new hi he6 hadj h1 hcol).1 hslt
          refine ih (w + 1) i L v _ (by omega) ?_ (hq.cong (mu_nef (by decide))) hi (hS.tr (Same.mu (by decide))) k
          rw [mu_setA, setA_eq]
          exact hn.wk wkP2
        all_goals
          have hcol : ¬ cI (zK Z) e := by
            unfold cI
            unfold KR at hkr
            omega
          have hslt : ¬ sI (zK Z) e := by
            unfold sI
            unfold KR at hkr
            omega
          obtain ⟨hn, hL⟩ := (hB.new hi he6 hadj h1 hcol).2 hslt
        · omega
        · have hll : (L ++ [e]).length = L.length + 1 := by rw [List.length_append, List.length_singleton]
          have hpg : pg (L ++ [e]) i = pg L i := pg_app hi
          have := ih (w + 1) i (L ++ [e]) v (mu (mu σ1 84 e (v + 1)) 85 L.length (e : Int)) (by omega) ?_ ?_ (by omega) ((hS.tr (Same.mu (by decide))).tr (Same.mu (by decide))) k
          · rw [hll, hpg] at this
            exact this
          · rw [mu_nef (by decide), mu_setA, setA_eq, hpg]
            exact hn.wk wkP2
          · have w1 : hld (mu σ1 84 e (v + 1)) 85 L := hq.cong (mu_nef (by decide))
            exact w1.snoc e
  have loop : ∀ (d i : Nat) (L : List Nat) (v : Int) (σ0 : Mem), i + d = 36 → BJ (cI (zK Z)) (sI (zK Z)) s0 i L (σ0 84) (fun _ => False) v → hld σ0 85 L → Same [84, 85] σ σ0 → GO none mX11_walk 49 [some (.inr 73), some (.inl (a : Int)), some (.inl (L.length : Int)), some (.inl (i : Int)), none, none, none] [] σ0 (fun _ σ1 => IsD (cI (zK Z)) (sI (zK Z)) s0 (σ1 84) ∧ Same [84, 85] σ σ1) := by
    intro d
    induction d with
    | zero =>
      intro i L v σ0 hd hB hq hS
      have hl := nd_len hB.nd hB.lt
      exact rX11_walk_49 ⟨fun _ => ⟨hB.fin hs0 (by omega), hS⟩, fun h => by omega⟩
    | succ d ih =>
      intro i L v σ0 hd hB hq hS
      refine rX11_walk_49 ⟨fun h => ⟨hB.fin hs0 (by omega), hS⟩, fun h => ⟨by omega, by omega, ?_⟩⟩
      have hi : i < L.length := by omega
      rw [Int.toNat_natCast, hq.pg hi]
      exact inner 4 0 i L v σ0 rfl (hB.wk (fun e ⟨u, hu, _⟩ => by omega)) hq hi hS (fun L' σ1 v' g1 g2 g3 _ => ih (i + 1) L' v' σ1 (by omega) g1 g2 g3)
  have fill : ∀ (d i : Nat) (σ0 : Mem), i + d = 36 → Same [84, 85] σ σ0 → (∀ j, j < i → σ0 84 j = -1) → GO none mX11_walk 2 [some (.inr 73), some (.inl (a : Int)), some (.inl (i : Int)), none, none, none, none] [] σ0 (fun _ σ1 => IsD (cI (zK Z)) (sI (zK Z)) s0 (σ1 84) ∧ Same [84, 85] σ σ1) := by
    intro d
    induction d with
    | zero =>
      intro i σ0 hd hS hf
      have e76 : σ0 76 a = s0 := by rw [hS 76 (by decide), hM.c, es]
      refine rX11_walk_2 ⟨fun _ => ?_, fun h => by omega⟩
      rw [Int.toNat_natCast, e76, Int.toNat_natCast]
      refine ⟨by omega, by omega, by omega, by omega, ?_⟩
      refine loop 36 0 [s0] 0 _ rfl ?_ ?_ ?_
      · rw [mu_nef (by decide)]
        refine BJ.start hs0 (fun d hd => ?_)
        rw [mu_at]
        by_cases e : d = s0
        · rw [if_pos e, if_pos e]
        · rw [if_neg e, if_neg e]; exact hf d (by omega)
      · have w : hld (mu σ0 84 s0 0) 85 [] := hld_nil
        exact w.snoc s0
      · exact (hS.tr (Same.mu (by decide))).tr (Same.mu (by decide))
    | succ d ih =>
      intro i σ0 hd hS hf
      refine rX11_walk_2 ⟨fun h => by omega, fun h => ⟨by omega, by omega, ?_⟩⟩
      rw [Int.toNat_natCast]
      refine ih (i + 1) _ (by omega) (hS.tr (Same.mu (by decide))) (fun j hj => ?_)
      rw [mu_at]
      by_cases e : j = i
      · rw [if_pos e]
      · rw [if_neg e]; exact hf j (by omega)
  exact rX11_walk_0 (fill 36 0 σ rfl Same.rf (fun j hj => by omega))
/-- the reference's ways are laid -/
def ML (Z : Zt) (σ : Mem) : Prop := (∀ a, a < dn (zD Z) → (∀ b, b < dn (zD Z) → σ 86 (6 * a + b) = dW (zD Z) a b) ∧ σ 87 a = dO (zD Z) a)
set_option maxRecDepth 100000 in
theorem rX11_layFloor_0  {σ : Mem} {Q : Int → Mem → Prop} (h : GO none mX11_layFloor 2 [some (.inr 73), some (.inl 0), none] [] σ Q) : CM mX11_layFloor [.inr 73] σ Q := by
  refine CM_of_GO (by decide +kernel) rfl (Nat.le_of_ble_eq_true rfl) ?_
  show GO none mX11_layFloor 0 [some (.inr 73), none, none] [] σ Q
  refine g_iconst dX11_layFloor_0 (by decide) ?_
  refine g_istore_n (ls' := [some (.inr 73), some (.inl 0), none]) dX11_layFloor_1 rfl (by decide) rfl ?_
  exact h
set_option maxRecDepth 100000 in
theorem rX11_layFloor_2 {x1 : Int}  {σ : Mem} {Q : Int → Mem → Prop} (h : ((σ 73 2) ≤ x1 → Q 0 σ) ∧ (x1 < (σ 73 2) → CM mX11_walk [.inr 73, .inl x1] σ (fun _ σ3 => GO none mX11_layFloor 17 [some (.inr 73), some (.inl x1), some (.inl 0)] [] σ3 Q))) : GO none mX11_layFloor 2 [some (.inr 73), some (.inl x1), none] [] σ Q := by
  refine g_iload_n dX11_layFloor_2 rfl rfl ?_
  refine g_aload_n dX11_layFloor_3 rfl rfl ?_
  refine g_getI flX11_82 (by decide) rfl (by decide) rfl dX11_layFloor_4 ?_
  refine g_icmp_ge (tgt := 136) dX11_layFloor_7 (by decide) (fun c1 => ?_) (fun c1 => ?_)
  · have h := h.1 c1
    exact g_return rfl dX11_layFloor_136 h
  · have h := h.2 c1
    refine g_aload_n dX11_layFloor_10 rfl rfl ?_
    refine g_iload_n dX11_layFloor_11 rfl rfl ?_
    refine g_invVV (as := [.inl x1]) (rest := []) okX11_walk mlX11_96 (by decide) rfl ⟨_, _, rfl⟩ rfl ⟨Nat.le_of_ble_eq_true rfl, Nat.le_of_ble_eq_true rfl⟩ (Nat.le_of_ble_eq_true rfl) rfl dX11_layFloor_12 h rfl (fun σ3 e4 => ?_)
    have h := e4
    refine g_iconst dX11_layFloor_15 (by decide) ?_
    refine g_istore_n (ls' := [some (.inr 73), some (.inl x1), some (.inl 0)]) dX11_layFloor_16 rfl (by decide) rfl ?_
    exact h
set_option maxRecDepth 100000 in
theorem rX11_layFloor_17 {x1 x2 : Int}  {σ : Mem} {Q : Int → Mem → Prop} (h : ((σ 73 2) ≤ x2 → ((0 ≤ x1) ∧ (((x1 < 6) ∧ (GO none mX11_layFloor 62 [some (.inr 73), some (.inl x1), some (.inl 0)] [] (mu σ 87 (x1).toNat (-1)) Q))))) ∧ (x2 < (σ 73 2) → ((inR (6 * x1)) ∧ (((inR ((6 * x1) + x2)) ∧ (((0 ≤ x2) ∧ (((x2 < 6) ∧ (((0 ≤ (σ 76 (x2).toNat)) ∧ ((((σ 76 (x2).toNat) < 36) ∧ (((0 ≤ ((6 * x1) + x2)) ∧ (((((6 * x1) + x2) < 36) ∧ (((inR (x2 + 1)) ∧ (GO none mX11_layFloor 17 [some (.inr 73), some (.inl x1), some (.inl (x2 + 1))] [] (mu σ 86 (((6 * x1) + x2)).toNat (σ 84 ((σ 76 (x2).toNat)).toNat)) Q)))))))))))))))))))) : GO none mX11_layFloor 17 [some (.inr 73), some (.inl x1), some (.inl x2)] [] σ Q := by
  refine g_iload_n dX11_layFloor_17 rfl rfl ?_
  refine g_aload_n dX11_layFloor_18 rfl rfl ?_
  refine g_getI flX11_82 (by decide) rfl (by decide) rfl dX11_layFloor_19 ?_
  refine g_icmp_ge (tgt := 53) dX11_layFloor_22 (by decide) (fun c1 => ?_) (fun c1 => ?_)
  · have h := h.1 c1
    refine g_aload_n dX11_layFloor_53 rfl rfl ?_
    refine g_getR (r' := 87) flX11_54 (by decide) rfl (by decide) rfl dX11_layFloor_54 ?_
    refine g_iload_n dX11_layFloor_57 rfl rfl ?_
    refine g_iconst dX11_layFloor_58 (by decide) ?_
    obtain ⟨p2, h⟩ := h
    obtain ⟨p3, h⟩ := h
    refine g_iast (by decide) rfl p2 p3 dX11_layFloor_59 ?_
    refine g_iconst dX11_layFloor_60 (by decide) ?_
    refine g_istore_n (ls' := [some (.inr 73), some (.inl x1), some (.inl 0)]) dX11_layFloor_61 rfl (by decide) rfl ?_
    exact h
  · have h := h.2 c1
    refine g_aload_n dX11_layFloor_25 rfl rfl ?_
    refine g_getR (r' := 86) flX11_51 (by decide) rfl (by decide) rfl dX11_layFloor_26 ?_
    refine g_bipush dX11_layFloor_29 (by decide) (by decide) ?_
    refine g_iload_n dX11_layFloor_31 rfl rfl ?_
    obtain ⟨p4, h⟩ := h
    refine g_imul dX11_layFloor_32 p4 ?_
    refine g_iload_n dX11_layFloor_33 rfl rfl ?_
    obtain ⟨p5, h⟩ := h
    refine g_iadd dX11_layFloor_34 p5 ?_
    refine g_aload_n dX11_layFloor_35 rfl rfl ?_
    refine g_getR (r' := 84) flX11_45 (by decide) rfl (by decide) rfl dX11_layFloor_36 ?_
    refine g_aload_n dX11_layFloor_39 rfl rfl ?_
    refine g_getR (r' := 76) flX11_17 (by decide) rfl (by decide) rfl dX11_layFloor_40 ?_
    refine g_iload_n dX11_layFloor_43 rfl rfl ?_
    obtain ⟨p6, h⟩ := h
    obtain ⟨p7, h⟩ := h
    refine g_iald (by decide) rfl p6 p7 dX11_layFloor_44 ?_
    obtain ⟨p8, h⟩ := h
    obtain ⟨p9, h⟩ := h
    refine g_iald (by decide) rfl p8 p9 dX11_layFloor_45 ?_
    obtain ⟨p10, h⟩ := h
    obtain ⟨p11, h⟩ := h
    refine g_iast (by decide) rfl p10 p11 dX11_layFloor_46 ?_
    obtain ⟨p12, h⟩ := h
    refine g_iinc (ls' := [some (.inr 73), some (.inl x1), some (.inl (x2 + 1))]) dX11_layFloor_47 (by decide) rfl p12 rfl ?_
    refine g_goto (tgt := 17) dX11_layFloor_50 (by decide) ?_
    exact h
set_option maxRecDepth 100000 in
theorem rX11_layFloor_62 {x1 x2 : Int}  {σ : Mem} {Q : Int → Mem → Prop} (h : (36 ≤ x2 → ((inR (x1 + 1)) ∧ (GO none mX11_layFloor 2 [some (.inr 73), some (.inl (x1 + 1)), none] [] σ Q))) ∧ (x2 < 36 → ((0 ≤ x2) ∧ (((σ 75 (x2).toNat) = 0 → ((inR (x2 + 1)) ∧ (GO none mX11_layFloor 62 [some (.inr 73), some (.inl x1), some (.inl (x2 + 1))] [] σ Q))) ∧ ((σ 75 (x2).toNat) ≠ 0 → ((σ 84 (x2).toNat) = (-1) → ((inR (x2 + 1)) ∧ (GO none mX11_layFloor 62 [some (.inr 73), some (.inl x1), some (.inl (x2 + 1))] [] σ Q))) ∧ ((σ 84 (x2).toNat) ≠ (-1) → ((0 ≤ x1) ∧ (((x1 < 6) ∧ (((σ 87 (x1).toNat) = (-1) → ((inR (x2 + 1)) ∧ (GO none mX11_layFloor 62 [some (.inr 73), some (.inl x1), some (.inl (x2 + 1))] [] (mu σ 87 (x1).toNat (σ 84 (x2).toNat)) Q))) ∧ ((σ 87 (x1).toNat) ≠ (-1) → ((σ 87 (x1).toNat) ≤ (σ 84 (x2).toNat) → ((inR (x2 + 1)) ∧ (GO none mX11_layFloor 62 [some (.inr 73), some (.inl x1), some (.inl (x2 + 1))] [] σ Q))) ∧ ((σ 84 (x2).toNat) < (σ 87 (x1).toNat) → ((inR (x2 + 1)) ∧ (GO none mX11_layFloor 62 [some (.inr 73), some (.inl x1), some (.inl (x2 + 1))] [] (mu σ 87 (x1).toNat (σ 84 (x2).toNat)) Q)))))))))))))) : GO none mX11_layFloor 62 [some (.inr 73), some (.inl x1), some (.inl x2)] [] σ Q := by
  refine g_iload_n dX11_layFloor_62 rfl rfl ?_
  refine g_bipush dX11_layFloor_63 (by decide) (by decide) ?_
  refine g_icmp_ge (tgt := 130) dX11_layFloor_65 (by decide) (fun c1 => ?_) (fun c1 => ?_)
  · have h := h.1 c1
    obtain ⟨p2, h⟩ := h
    refine g_iinc (ls' := [some (.inr 73), some (.inl (x1 + 1)), some (.inl x2)]) dX11_layFloor_130 (by decide) rfl p2 rfl ?_
    refine g_goto (tgt := 2) dX11_layFloor_133 (by decide) ?_
    refine g_kill (i := 2) (ls' := [some (.inr 73), some (.inl (x1 + 1)), none]) rfl ?_
    exact h
  · have h := h.2 c1
    refine g_aload_n dX11_layFloor_68 rfl rfl ?_
    refine g_getR (r' := 75) flX11_13 (by decide) rfl (by decide) rfl dX11_layFloor_69 ?_
    refine g_iload_n dX11_layFloor_72 rfl rfl ?_
    obtain ⟨p3, h⟩ := h
    refine g_zald (by decide) rfl p3 c1 dX11_layFloor_73 ?_
    refine g_if_eq (tgt := 124) dX11_layFloor_74 (by decide) (fun c4 => ?_) (fun c4 => ?_)
    · have h := h.1 c4
      obtain ⟨p5, h⟩ := h
      refine g_iinc (ls' := [some (.inr 73), some (.inl x1), some (.inl (x2 + 1))]) dX11_layFloor_124 (by decide) rfl p5 rfl ?_
      refine g_goto (tgt := 62) dX11_layFloor_127 (by decide) ?_
      exact h
    · have h := h.2 c4
      refine g_aload_n dX11_layFloor_77 rfl rfl ?_
      refine g_getR (r' := 84) flX11_45 (by decide) rfl (by decide) rfl dX11_layFloor_78 ?_
      refine g_iload_n dX11_layFloor_81 rfl rfl ?_
      refine g_iald (by decide) rfl p3 c1 dX11_layFloor_82 ?_
      refine g_iconst dX11_layFloor_83 (by decide) ?_
      refine g_icmp_eq (tgt := 124) dX11_layFloor_84 (by decide) (fun c6 => ?_) (fun c6 => ?_)
      · have h := h.1 c6
        obtain ⟨p7, h⟩ := h
        refine g_iinc (ls' := [some (.inr 73), some (.inl x1), some (.inl (x2 + 1))]) dX11_layFloor_124 (by decide) rfl p7 rfl ?_
        refine g_goto (tgt := 62) dX11_layFloor_127 (by decide) ?_
        exact h
      · have h := h.2 c6
        refine g_aload_n dX11_layFloor_87 rfl rfl ?_
        refine g_getR (r' := 87) flX11_54 (by decide) rfl (by decide) rfl dX11_layFloor_88 ?_
        refine g_iload_n dX11_layFloor_91 rfl rfl ?_
        obtain ⟨p8, h⟩ := h
        obtain ⟨p9, h⟩ := h
        refine g_iald (by decide) rfl p8 p9 dX11_layFloor_92 ?_
        refine g_iconst dX11_layFloor_93 (by decide) ?_
        refine g_icmp_eq (tgt := 112) dX11_layFloor_94 (by decide) (fun c10 => ?_) (fun c10 => ?_)
        · have h := h.1 c10
          refine g_aload_n dX11_layFloor_112 rfl rfl ?_
          refine g_getR (r' := 87) flX11_54 (by decide) rfl (by decide) rfl dX11_layFloor_113 ?_
          refine g_iload_n dX11_layFloor_116 rfl rfl ?_
          refine g_aload_n dX11_layFloor_117 rfl rfl ?_
          refine g_getR (r' := 84) flX11_45 (by decide) rfl (by decide) rfl dX11_layFloor_118 ?_
          refine g_iload_n dX11_layFloor_121 rfl rfl ?_
          refine g_iald (by decide) rfl p3 c1 dX11_layFloor_122 ?_
          refine g_iast (by decide) rfl p8 p9 dX11_layFloor_123 ?_
          obtain ⟨p11, h⟩ := h
          refine g_iinc (ls' := [some (.inr 73), some (.inl x1), some (.inl (x2 + 1))]) dX11_layFloor_124 (by decide) rfl p11 rfl ?_
          refine g_goto (tgt := 62) dX11_layFloor_127 (by decide) ?_
          exact h
        · have h := h.2 c10
          refine g_aload_n dX11_layFloor_97 rfl rfl ?_
          refine g_getR (r' := 84) flX11_45 (by decide) rfl (by decide) rfl dX11_layFloor_98 ?_
          refine g_iload_n dX11_layFloor_101 rfl rfl ?_
          refine g_iald (by decide) rfl p3 c1 dX11_layFloor_102 ?_
          refine g_aload_n dX11_layFloor_103 rfl rfl ?_
          refine g_getR (r' := 87) flX11_54 (by decide) rfl (by decide) rfl dX11_layFloor_104 ?_
          refine g_iload_n dX11_layFloor_107 rfl rfl ?_
          refine g_iald (by decide) rfl p8 p9 dX11_layFloor_108 ?_
          refine g_icmp_ge (tgt := 124) dX11_layFloor_109 (by decide) (fun c12 => ?_) (fun c12 => ?_)
          · have h := h.1 c12
            obtain ⟨p13, h⟩ := h
            refine g_iinc (ls' := [some (.inr 73), some (.inl x1), some (.inl (x2 + 1))]) dX11_layFloor_124 (by decide) rfl p13 rfl ?_
            refine g_goto (tgt := 62) dX11_layFloor_127 (by decide) ?_
            exact h
          · have h := h.2 c12
            refine g_aload_n dX11_layFloor_112 rfl rfl ?_
            refine g_getR (r' := 87) flX11_54 (by decide) rfl (by decide) rfl dX11_layFloor_113 ?_
            refine g_iload_n dX11_layFloor_116 rfl rfl ?_
            refine g_aload_n dX11_layFloor_117 rfl rfl ?_
            refine g_getR (r' := 84) flX11_45 (by decide) rfl (by decide) rfl dX11_layFloor_118 ?_
            refine g_iload_n dX11_layFloor_121 rfl rfl ?_
            refine g_iald (by decide) rfl p3 c1 dX11_layFloor_122 ?_
            refine g_iast (by decide) rfl p8 p9 dX11_layFloor_123 ?_
            obtain ⟨p14, h⟩ := h
            refine g_iinc (ls' := [some (.inr 73), some (.inl x1), some (.inl (x2 + 1))]) dX11_layFloor_124 (by decide) rfl p14 rfl ?_
            refine g_goto (tgt := 62) dX11_layFloor_127 (by decide) ?_
            exact h
theorem c_X11_layFloor {Z : Zt} {σ : Mem} (hZ : GZ Z) (hM : MI Z σ) : CM mX11_layFloor [.inr 73] σ (fun _ σ1 => ML Z σ1 ∧ Same [84, 85, 86, 87] σ σ1) := by
  have hn6 := hZ.n6
  have hKR := hM.kr
  have exits : ∀ (d j i : Nat) (f : Nat → Int) (σ0 : Mem), j + d = 36 → i < dn (zD Z) → Same [84, 85, 86, 87] σ σ0 → (∀ c, c < 36 → σ0 84 c = f c) → σ0 87 i = nearF (eI (zK Z)) f j → (∀ σ1, Same [84, 85, 86, 87] σ σ1 → σ1 86 = σ0 86 → (∀ b, b ≠ i → σ1 87 b = σ0 87 b) → σ1 87 i = nearF (eI (zK Z)) f 36 → GO none mX11_layFloor 2 [some (.inr 73), some (.inl ((i : Int) + 1)), none] [] σ1 (fun _ σ1 => ML Z σ1 ∧ Same [84, 85, 86, 87] σ σ1)) → GO none mX11_layFloor 62 [some (.inr 73), some (.inl (i : Int)), some (.inl (j : Int))] [] σ0 (fun _ σ1 => ML Z σ1 ∧ Same [84, 85, 86, 87] σ σ1) := by
    intro d
    induction d with
    | zero =>
      intro j i f σ0 hd hi hS hf h87 k
      refine rX11_layFloor_62 ⟨fun _ => ⟨by omega, ?_⟩, fun h => by omega⟩
      rw [show j = 36 by omega] at h87
      exact k σ0 hS rfl (fun _ _ => rfl) h87
    | succ d ih =>
      intro j i f σ0 hd hi hS hf h87 k
      have hj : j < 36 := by omega
      have hkr := hKR j hj
      have e75 : σ0 75 j = σ 75 j := by rw [hS 75 (by decide)]
      have yes : eI (zK Z) j = true ∧ f j ≠ -1 ∧ (nearF (eI (zK Z)) f j = -1 ∨ f j < nearF (eI (zK Z)) f j) → nearF (eI (zK Z)) f (j + 1) = f j := fun h => by rw [nearF, if_pos h]
      have no : ¬ (eI (zK Z) j = true ∧ f j ≠ -1 ∧ (nearF (eI (zK Z)) f j = -1 ∨ f j < nearF (eI (zK Z)) f j)) → nearF (eI (zK Z)) f (j + 1) = nearF (eI (zK Z)) f j := fun h => by rw [nearF, if_neg h]
      have e3 : eI (zK Z) j = true ↔ zK Z j = 3 := by unfold eI; exact beq_iff_eq
      have ex : σ 75 j = 0 ↔ ¬ zK Z j = 3 := by unfold KR at hkr; omega
      refine rX11_layFloor_62 ⟨fun h => by omega, fun h => ⟨by omega, ?_⟩⟩
      rw [Int.toNat_natCast, Int.toNat_natCast, hf j hj, e75, h87]
      have keep : nearF (eI (zK Z)) f (j + 1) = nearF (eI (zK Z)) f j → GO none mX11_layFloor 62 [some (.inr 73), some (.inl (i : Int)), some (.inl ((j : Int) + 1))] [] σ0 (fun _ σ1 => ML Z σ1 ∧ Same [84, 85, 86, 87] σ σ1) := fun e => ih (j + 1) i f σ0 (by omega) hi hS hf (by rw [e]; exact h87) k
      have new : nearF (eI (zK Z)) f (j + 1) = f j → GO none mX11_layFloor 62 [some (.inr 73), some (.inl (i : Int)), some (.inl ((j : Int) + 1))] [] (mu σ0 87 i (f j)) (fun _ σ1 => ML Z σ1 ∧ Same [84, 85, 86, 87] σ σ1) := fun e => by
        refine ih (j + 1) i f _ (by omega) hi (hS.tr (Same.mu (by decide))) (fun c hc => by rw [mu_nef (by decide)]; exact hf c hc) (by rw [mu_at, if_pos rfl, e]) (fun σ1 g1 g2 g3 g4 => k σ1 g1 (by rw [g2, mu_nef (by decide)]) (fun b hb => by rw [g3 b hb, mu_atn hb]) g4)
      refine ⟨fun a => ⟨by omega, ?_⟩, fun a => ⟨fun b => ⟨by omega, ?_⟩, fun b => ⟨by omega, by omega, fun c => ⟨by omega, ?_⟩, fun c => ⟨fun g => ⟨by omega, ?_⟩, fun g => ⟨by omega, ?_⟩⟩⟩⟩⟩
      · exact keep (no (fun q => ex.mp a (e3.mp q.1)))
      · exact keep (no (fun q => q.2.1 b))
      · exact new (yes ⟨e3.mpr (by omega), b, Or.inl c⟩)
      · exact keep (no (fun q => q.2.2.elim c (fun z => by omega)))
      · exact new (yes ⟨e3.mpr (by omega), b, Or.inr g⟩)
  have inner : ∀ (d j i : Nat) (f : Nat → Int) (σ0 : Mem), j + d = dn (zD Z) → i < dn (zD Z) → Same [84, 85, 86, 87] σ σ0 → (∀ c, c < 36 → σ0 84 c = f c) → (∀ b, b < j → σ0 86 (6 * i + b) = f (zC Z b).toNat) → (∀ σ1, Same [84, 85, 86, 87] σ σ1 → (∀ b, b < dn (zD Z) → σ1 86 (6 * i + b) = f (zC Z b).toNat) → (∀ z, (z < 6 * i ∨ 6 * i + 6 ≤ z) → σ1 86 z = σ0 86 z) → (∀ b, b ≠ i → σ1 87 b = σ0 87 b) → σ1 87 i = nearF (eI (zK Z)) f 36 → GO none mX11_layFloor 2 [some (.inr 73), some (.inl ((i : Int) + 1)), none] [] σ1 (fun _ σ1 => ML Z σ1 ∧ Same [84, 85, 86, 87] σ σ1)) → GO none mX11_layFloor 17 [some (.inr 73), some (.inl (i : Int)), some (.inl (j : Int))] [] σ0 (fun _ σ1 => ML Z σ1 ∧ Same [84, 85, 86, 87] σ σ1) := by
    intro d
    induction d with
    | zero =>
      intro j i f σ0 hd hi hS hf hw k
      have e2 : σ0 73 2 = dn (zD Z) := by rw [hS 73 (by decide)]; exact hM.n
      refine rX11_layFloor_17 ⟨fun _ => ⟨by omega, by omega, ?_⟩, fun h => by omega⟩
      rw [Int.toNat_natCast]
      refine exits 36 0 i f _ rfl hi (hS.tr (Same.mu (by decide))) (fun c hc => by rw [mu_nef (by decide)]; exact hf c hc) (by rw [mu_at, if_pos rfl]; rfl) (fun σ1 g1 g2 g3 g4 => k σ1 g1 (fun b hb => ?_) (fun z hz => ?_) (fun b hb => by rw [g3 b hb, mu_atn hb]) g4)
      · rw [g2, mu_nef (by decide)]; exact hw b (by omega)
      · rw [g2, mu_nef (by decide)]
    | succ d ih =>
      intro j i f σ0 hd hi hS hf hw k
      have e2 : σ0 73 2 = dn (zD Z) := by rw [hS 73 (by decide)]; exact hM.n
      have e76 : σ0 76 = zC Z := by rw [hS 76 (by decide)]; exact hM.c
      have hcj := hZ.gc j (by omega)
      refine rX11_layFloor_17 ⟨fun h => by omega, fun _ => ?_⟩
      rw [e76, Int.toNat_natCast, show (6 * (i : Int) + (j : Int)).toNat = 6 * i + j by omega, hf _ (by omega)]
      refine ⟨by omega, by omega, by omega, by omega, hcj.1, hcj.2.1, by omega, by omega, by omega, ?_⟩
      refine ih (j + 1) i f _ (by omega) hi (hS.tr (Same.mu (by decide))) (fun c hc => by rw [mu_nef (by decide)]; exact hf c hc) (fun b hb => ?_) (fun σ1 g1 g2 g3 g4 g5 => k σ1 g1 g2 (fun z hz => ?_) (fun b hb => by rw [g4 b hb, mu_nef (by decide)]) g5)
      · rw [mu_at]
        by_cases e : b = j
        · rw [if_pos (by omega), e]
        · rw [if_neg (by omega)]; exact hw b (by omega)
      · rw [g3 z hz, mu_atn (by omega)]
  have key : ∀ (d i : Nat) (σ0 : Mem), i + d = dn (zD Z) → Same [84, 85, 86, 87] σ σ0 → (∀ a, a < i → (∀ b, b < dn (zD Z) → σ0 86 (6 * a + b) = dW (zD Z) a b) ∧ σ0 87 a = dO (zD Z) a) → GO none mX11_layFloor 2 [some (.inr 73), some (.inl (i : Int)), none] [] σ0 (fun _ σ1 => ML Z σ1 ∧ Same [84, 85, 86, 87] σ σ1) := by
    intro d
    induction d with
    | zero =>
      intro i σ0 hd hS hg
      have e2 : σ0 73 2 = dn (zD Z) := by rw [hS 73 (by decide)]; exact hM.n
      exact rX11_layFloor_2 ⟨fun _ => ⟨fun a ha => hg a (by omega), hS⟩, fun h => by omega⟩
    | succ d ih =>
      intro i σ0 hd hS hg
      have e2 : σ0 73 2 = dn (zD Z) := by rw [hS 73 (by decide)]; exact hM.n
      have hM0 : MI Z σ0 := hM.same (MSm.same hS (by decide)) (by decide)
      refine rX11_layFloor_2 ⟨fun h => by omega, fun _ => ?_⟩
      refine CM.mono (fun _ σ2 hq => ?_) (c_X11_walk (a := i) hZ hM0 (by omega) rfl)
      obtain ⟨hD, hS2⟩ := hq
      obtain ⟨f, f1, f2, f3⟩ := hZ.wy i (by omega)
      refine inner (dn (zD Z)) 0 i f σ2 (by omega) (by omega) (hS.tr (hS2.wk (by decide))) (fun c hc => hD.un f1 hc) (fun b hb => by omega) (fun σ1 g1 g2 g3 g4 g5 => ?_)
      have := ih (i + 1) σ1 (by omega) g1 (fun a ha => ?_)
      · exact this
      · by_cases e : a = i
        · subst e
          exact ⟨fun b hb => by rw [g2 b hb, f2 b hb], by rw [g5, f3]⟩
        · have h1 := hg a (by omega)
          exact ⟨fun b hb => by rw [g3 _ (by omega), hS2 86 (by decide)]; exact h1.1 b hb, by rw [g4 a e, hS2 87 (by decide)]; exact h1.2⟩
  exact rX11_layFloor_0 (key (dn (zD Z)) 0 σ (by omega) Same.rf (fun a ha => by omega))
