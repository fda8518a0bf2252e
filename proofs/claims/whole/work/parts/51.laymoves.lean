/-! ===== the reference: the table of moves is lowered until nothing changes ===== -/
set_option maxRecDepth 100000 in
theorem rX11_layMoves_0  {σ : Mem} {Q : Int → Mem → Prop} (h : CM mX11_allNumbers [.inr 73] σ (fun v1 σ2 => CM mX11_numberOf [.inr 73] σ2 (fun v4 σ5 => GO none mX11_layMoves 12 [some (.inr 73), some (.inl v1), some (.inl v4), some (.inl 0), none, none] [] σ5 Q))) : CM mX11_layMoves [.inr 73] σ Q := by
  refine CM_of_GO (by decide +kernel) rfl (Nat.le_of_ble_eq_true rfl) ?_
  show GO none mX11_layMoves 0 [some (.inr 73), none, none, none, none, none] [] σ Q
  refine g_aload_n dX11_layMoves_0 rfl rfl ?_
  refine g_invVI (as := []) (rest := []) okX11_allNumbers mlX11_116 (by decide) rfl ⟨_, _, rfl⟩ rfl ⟨Nat.le_of_ble_eq_true rfl, Nat.le_of_ble_eq_true rfl⟩ (Nat.le_of_ble_eq_true rfl) rfl dX11_layMoves_1 h (Or.inl rfl) (fun v1 σ2 e3 => ?_)
  have h := e3
  refine g_istore_n (ls' := [some (.inr 73), some (.inl v1), none, none, none, none]) dX11_layMoves_4 rfl (by decide) rfl ?_
  refine g_aload_n dX11_layMoves_5 rfl rfl ?_
  refine g_invVI (as := []) (rest := []) okX11_numberOf mlX11_159 (by decide) rfl ⟨_, _, rfl⟩ rfl ⟨Nat.le_of_ble_eq_true rfl, Nat.le_of_ble_eq_true rfl⟩ (Nat.le_of_ble_eq_true rfl) rfl dX11_layMoves_6 h (Or.inl rfl) (fun v4 σ5 e6 => ?_)
  have h := e6
  refine g_istore_n (ls' := [some (.inr 73), some (.inl v1), some (.inl v4), none, none, none]) dX11_layMoves_9 rfl (by decide) rfl ?_
  refine g_iconst dX11_layMoves_10 (by decide) ?_
  refine g_istore_n (ls' := [some (.inr 73), some (.inl v1), some (.inl v4), some (.inl 0), none, none]) dX11_layMoves_11 rfl (by decide) rfl ?_
  exact h
set_option maxRecDepth 100000 in
theorem rX11_layMoves_12 {x1 x2 x3 : Int}  {σ : Mem} {Q : Int → Mem → Prop} (h : (x1 ≤ x3 → ((0 ≤ x2) ∧ (((x2 < 7776) ∧ (GO none mX11_layMoves 40 [some (.inr 73), some (.inl x1), none, some (.inl 1), none, none] [] (mu σ 91 (x2).toNat 0) Q))))) ∧ (x3 < x1 → ((0 ≤ x3) ∧ (((x3 < 7776) ∧ (((inR (x3 + 1)) ∧ (GO none mX11_layMoves 12 [some (.inr 73), some (.inl x1), some (.inl x2), some (.inl (x3 + 1)), none, none] [] (mu σ 91 (x3).toNat 100000000) Q)))))))) : GO none mX11_layMoves 12 [some (.inr 73), some (.inl x1), some (.inl x2), some (.inl x3), none, none] [] σ Q := by
  refine g_iload_n dX11_layMoves_12 rfl rfl ?_
  refine g_iload_n dX11_layMoves_13 rfl rfl ?_
  refine g_icmp_ge (tgt := 31) dX11_layMoves_14 (by decide) (fun c1 => ?_) (fun c1 => ?_)
  · have h := h.1 c1
    refine g_aload_n dX11_layMoves_31 rfl rfl ?_
    refine g_getR (r' := 91) flX11_66 (by decide) rfl (by decide) rfl dX11_layMoves_32 ?_
    refine g_iload_n dX11_layMoves_35 rfl rfl ?_
    refine g_iconst dX11_layMoves_36 (by decide) ?_
    obtain ⟨p2, h⟩ := h
    obtain ⟨p3, h⟩ := h
    refine g_iast (by decide) rfl p2 p3 dX11_layMoves_37 ?_
    refine g_iconst dX11_layMoves_38 (by decide) ?_
    refine g_istore_n (ls' := [some (.inr 73), some (.inl x1), some (.inl x2), some (.inl 1), none, none]) dX11_layMoves_39 rfl (by decide) rfl ?_
    refine g_kill (i := 2) (ls' := [some (.inr 73), some (.inl x1), none, some (.inl 1), none, none]) rfl ?_
    exact h
  · have h := h.2 c1
    refine g_aload_n dX11_layMoves_17 rfl rfl ?_
    refine g_getR (r' := 91) flX11_66 (by decide) rfl (by decide) rfl dX11_layMoves_18 ?_
    refine g_iload_n dX11_layMoves_21 rfl rfl ?_
    refine g_ldc (n := 100000000) dX11_layMoves_22 kcX11_138 (by decide) (by decide) ?_
    obtain ⟨p4, h⟩ := h
    obtain ⟨p5, h⟩ := h
    refine g_iast (by decide) rfl p4 p5 dX11_layMoves_24 ?_
    obtain ⟨p6, h⟩ := h
    refine g_iinc (ls' := [some (.inr 73), some (.inl x1), some (.inl x2), some (.inl (x3 + 1)), none, none]) dX11_layMoves_25 (by decide) rfl p6 rfl ?_
    refine g_goto (tgt := 12) dX11_layMoves_28 (by decide) ?_
    exact h
set_option maxRecDepth 100000 in
theorem rX11_layMoves_40 {x1 x3 : Int}  {σ : Mem} {Q : Int → Mem → Prop} (h : (x3 = 0 → Q 0 σ) ∧ (x3 ≠ 0 → GO none mX11_layMoves 49 [some (.inr 73), some (.inl x1), none, some (.inl 0), some (.inl 0), none] [] σ Q)) : GO none mX11_layMoves 40 [some (.inr 73), some (.inl x1), none, some (.inl x3), none, none] [] σ Q := by
  refine g_iload_n dX11_layMoves_40 rfl rfl ?_
  refine g_if_eq (tgt := 117) dX11_layMoves_41 (by decide) (fun c1 => ?_) (fun c1 => ?_)
  · have h := h.1 c1
    exact g_return rfl dX11_layMoves_117 h
  · have h := h.2 c1
    refine g_iconst dX11_layMoves_44 (by decide) ?_
    refine g_istore_n (ls' := [some (.inr 73), some (.inl x1), none, some (.inl 0), none, none]) dX11_layMoves_45 rfl (by decide) rfl ?_
    refine g_iconst dX11_layMoves_46 (by decide) ?_
    refine g_istore (ls' := [some (.inr 73), some (.inl x1), none, some (.inl 0), some (.inl 0), none]) dX11_layMoves_47 (by decide) rfl ?_
    exact h
set_option maxRecDepth 100000 in
theorem rX11_layMoves_49 {x1 x3 x4 : Int}  {σ : Mem} {Q : Int → Mem → Prop} (h : (x1 ≤ x4 → GO none mX11_layMoves 40 [some (.inr 73), some (.inl x1), none, some (.inl x3), none, none] [] σ Q) ∧ (x4 < x1 → CM mX11_layRow [.inr 73, .inl x4] σ (fun v2 σ3 => (v2 = 0 → (x3 ≠ 0 → ((0 ≤ x4) ∧ (((x4 < 7776) ∧ (((inR (x4 + 1)) ∧ (GO none mX11_layMoves 49 [some (.inr 73), some (.inl x1), none, some (.inl 1), some (.inl (x4 + 1)), none] [] (mu σ3 91 (x4).toNat 100000000) Q))))))) ∧ (x3 = 0 → ((0 ≤ x4) ∧ (((x4 < 7776) ∧ (((σ3 91 (x4).toNat) ≤ 100000000 → ((inR (x4 + 1)) ∧ (GO none mX11_layMoves 49 [some (.inr 73), some (.inl x1), none, some (.inl 0), some (.inl (x4 + 1)), none] [] (mu σ3 91 (x4).toNat 100000000) Q))) ∧ (100000000 < (σ3 91 (x4).toNat) → ((inR (x4 + 1)) ∧ (GO none mX11_layMoves 49 [some (.inr 73), some (.inl x1), none, some (.inl 1), some (.inl (x4 + 1)), none] [] (mu σ3 91 (x4).toNat 100000000) Q))))))))) ∧ (v2 ≠ 0 → CM mX11_leastStep [.inr 73, .inl x4] σ3 (fun v15 σ16 => (x3 ≠ 0 → ((0 ≤ x4) ∧ (((x4 < 7776) ∧ (((inR (x4 + 1)) ∧ (GO none mX11_layMoves 49 [some (.inr 73), some (.inl x1), none, some (.inl 1), some (.inl (x4 + 1)), none] [] (mu σ16 91 (x4).toNat v15) Q))))))) ∧ (x3 = 0 → ((0 ≤ x4) ∧ (((x4 < 7776) ∧ (((σ16 91 (x4).toNat) ≤ v15 → ((inR (x4 + 1)) ∧ (GO none mX11_layMoves 49 [some (.inr 73), some (.inl x1), none, some (.inl 0), some (.inl (x4 + 1)), none] [] (mu σ16 91 (x4).toNat v15) Q))) ∧ (v15 < (σ16 91 (x4).toNat) → ((inR (x4 + 1)) ∧ (GO none mX11_layMoves 49 [some (.inr 73), some (.inl x1), none, some (.inl 1), some (.inl (x4 + 1)), none] [] (mu σ16 91 (x4).toNat v15) Q))))))))))))) : GO none mX11_layMoves 49 [some (.inr 73), some (.inl x1), none, some (.inl x3), some (.inl x4), none] [] σ Q := by
  refine g_iload dX11_layMoves_49 rfl ?_
  refine g_iload_n dX11_layMoves_51 rfl rfl ?_
  refine g_icmp_ge (tgt := 114) dX11_layMoves_52 (by decide) (fun c1 => ?_) (fun c1 => ?_)
  · have h := h.1 c1
    refine g_goto (tgt := 40) dX11_layMoves_114 (by decide) ?_
    refine g_kill (i := 4) (ls' := [some (.inr 73), some (.inl x1), none, some (.inl x3), none, none]) rfl ?_
    exact h
  · have h := h.2 c1
    refine g_aload_n dX11_layMoves_55 rfl rfl ?_
    refine g_iload dX11_layMoves_56 rfl ?_
    refine g_invVI (as := [.inl x4]) (rest := []) okX11_layRow mlX11_149 (by decide) rfl ⟨_, _, rfl⟩ rfl ⟨Nat.le_of_ble_eq_true rfl, Nat.le_of_ble_eq_true rfl⟩ (Nat.le_of_ble_eq_true rfl) rfl dX11_layMoves_58 h (Or.inr rfl) (fun v2 σ3 e4 => ?_)
    have h := e4
    refine g_if_eq (tgt := 73) dX11_layMoves_61 (by decide) (fun c5 => ?_) (fun c5 => ?_)
    · have h := h.1 c5
      refine g_ldc (n := 100000000) dX11_layMoves_73 kcX11_138 (by decide) (by decide) ?_
      refine g_istore (ls' := [some (.inr 73), some (.inl x1), none, some (.inl x3), some (.inl x4), some (.inl 100000000)]) dX11_layMoves_75 (by decide) rfl ?_
      refine g_iload_n dX11_layMoves_77 rfl rfl ?_
      refine g_if_ne (tgt := 93) dX11_layMoves_78 (by decide) (fun c6 => ?_) (fun c6 => ?_)
      · have h := h.1 c6
        refine g_iconst dX11_layMoves_93 (by decide) ?_
        refine g_goto (tgt := 98) dX11_layMoves_94 (by decide) ?_
        refine g_istore_n (ls' := [some (.inr 73), some (.inl x1), none, some (.inl 1), some (.inl x4), some (.inl 100000000)]) dX11_layMoves_98 rfl (by decide) rfl ?_
        refine g_aload_n dX11_layMoves_99 rfl rfl ?_
        refine g_getR (r' := 91) flX11_66 (by decide) rfl (by decide) rfl dX11_layMoves_100 ?_
        refine g_iload dX11_layMoves_103 rfl ?_
        refine g_iload dX11_layMoves_105 rfl ?_
        obtain ⟨p7, h⟩ := h
        obtain ⟨p8, h⟩ := h
        refine g_iast (by decide) rfl p7 p8 dX11_layMoves_107 ?_
        obtain ⟨p9, h⟩ := h
        refine g_iinc (ls' := [some (.inr 73), some (.inl x1), none, some (.inl 1), some (.inl (x4 + 1)), some (.inl 100000000)]) dX11_layMoves_108 (by decide) rfl p9 rfl ?_
        refine g_goto (tgt := 49) dX11_layMoves_111 (by decide) ?_
        refine g_kill (i := 5) (ls' := [some (.inr 73), some (.inl x1), none, some (.inl 1), some (.inl (x4 + 1)), none]) rfl ?_
        exact h
      · have h := h.2 c6
        refine g_iload dX11_layMoves_81 rfl ?_
        refine g_aload_n dX11_layMoves_83 rfl rfl ?_
        refine g_getR (r' := 91) flX11_66 (by decide) rfl (by decide) rfl dX11_layMoves_84 ?_
        refine g_iload dX11_layMoves_87 rfl ?_
        obtain ⟨p10, h⟩ := h
        obtain ⟨p11, h⟩ := h
        refine g_iald (by decide) rfl p10 p11 dX11_layMoves_89 ?_
        refine g_icmp_ge (tgt := 97) dX11_layMoves_90 (by decide) (fun c12 => ?_) (fun c12 => ?_)
        · have h := h.1 c12
          refine g_iconst dX11_layMoves_97 (by decide) ?_
          refine g_istore_n (ls' := [some (.inr 73), some (.inl x1), none, some (.inl 0), some (.inl x4), some (.inl 100000000)]) dX11_layMoves_98 rfl (by decide) rfl ?_
          refine g_aload_n dX11_layMoves_99 rfl rfl ?_
          refine g_getR (r' := 91) flX11_66 (by decide) rfl (by decide) rfl dX11_layMoves_100 ?_
          refine g_iload dX11_layMoves_103 rfl ?_
          refine g_iload dX11_layMoves_105 rfl ?_
          refine g_iast (by decide) rfl p10 p11 dX11_layMoves_107 ?_
          obtain ⟨p13, h⟩ := h
          refine g_iinc (ls' := [some (.inr 73), some (.inl x1), none, some (.inl 0), some (.inl (x4 + 1)), some (.inl 100000000)]) dX11_layMoves_108 (by decide) rfl p13 rfl ?_
          refine g_goto (tgt := 49) dX11_layMoves_111 (by decide) ?_
          refine g_kill (i := 5) (ls' := [some (.inr 73), some (.inl x1), none, some (.inl 0), some (.inl (x4 + 1)), none]) rfl ?_
          exact h
        · have h := h.2 c12
          refine g_iconst dX11_layMoves_93 (by decide) ?_
          refine g_goto (tgt := 98) dX11_layMoves_94 (by decide) ?_
          refine g_istore_n (ls' := [some (.inr 73), some (.inl x1), none, some (.inl 1), some (.inl x4), some (.inl 100000000)]) dX11_layMoves_98 rfl (by decide) rfl ?_
          refine g_aload_n dX11_layMoves_99 rfl rfl ?_
          refine g_getR (r' := 91) flX11_66 (by decide) rfl (by decide) rfl dX11_layMoves_100 ?_
          refine g_iload dX11_layMoves_103 rfl ?_
          refine g_iload dX11_layMoves_105 rfl ?_
          refine g_iast (by decide) rfl p10 p11 dX11_layMoves_107 ?_
          obtain ⟨p14, h⟩ := h
          refine g_iinc (ls' := [some (.inr 73), some (.inl x1), none, some (.inl 1), some (.inl (x4 + 1)), some (.inl 100000000)]) dX11_layMoves_108 (by decide) rfl p14 rfl ?_
          refine g_goto (tgt := 49) dX11_layMoves_111 (by decide) ?_
          refine g_kill (i := 5) (ls' := [some (.inr 73), some (.inl x1), none, some (.inl 1), some (.inl (x4 + 1)), none]) rfl ?_
          exact h
    · have h := h.2 c5
      refine g_aload_n dX11_layMoves_64 rfl rfl ?_
      refine g_iload dX11_layMoves_65 rfl ?_
      refine g_invVI (as := [.inl x4]) (rest := []) okX11_leastStep mlX11_181 (by decide) rfl ⟨_, _, rfl⟩ rfl ⟨Nat.le_of_ble_eq_true rfl, Nat.le_of_ble_eq_true rfl⟩ (Nat.le_of_ble_eq_true rfl) rfl dX11_layMoves_67 h (Or.inl rfl) (fun v15 σ16 e17 => ?_)
      have h := e17
      refine g_goto (tgt := 75) dX11_layMoves_70 (by decide) ?_
      refine g_istore (ls' := [some (.inr 73), some (.inl x1), none, some (.inl x3), some (.inl x4), some (.inl v15)]) dX11_layMoves_75 (by decide) rfl ?_
      refine g_iload_n dX11_layMoves_77 rfl rfl ?_
      refine g_if_ne (tgt := 93) dX11_layMoves_78 (by decide) (fun c18 => ?_) (fun c18 => ?_)
      · have h := h.1 c18
        refine g_iconst dX11_layMoves_93 (by decide) ?_
        refine g_goto (tgt := 98) dX11_layMoves_94 (by decide) ?_
        refine g_istore_n (ls' := [some (.inr 73), some (.inl x1), none, some (.inl 1), some (.inl x4), some (.inl v15)]) dX11_layMoves_98 rfl (by decide) rfl ?_
        refine g_aload_n dX11_layMoves_99 rfl rfl ?_
        refine g_getR (r' := 91) flX11_66 (by decide) rfl (by decide) rfl dX11_layMoves_100 ?_
        refine g_iload dX11_layMoves_103 rfl ?_
        refine g_iload dX11_layMoves_105 rfl ?_
        obtain ⟨p19, h⟩ := h
        obtain ⟨p20, h⟩ := h
        refine g_iast (by decide) rfl p19 p20 dX11_layMoves_107 ?_
        obtain ⟨p21, h⟩ := h
        refine g_iinc (ls' := [some (.inr 73), some (.inl x1), none, some (.inl 1), some (.inl (x4 + 1)), some (.inl v15)]) dX11_layMoves_108 (by decide) rfl p21 rfl ?_
        refine g_goto (tgt := 49) dX11_layMoves_111 (by decide) ?_
        refine g_kill (i := 5) (ls' := [some (.inr 73), some (.inl x1), none, some (.inl 1), some (.inl (x4 + 1)), none]) rfl ?_
        exact h
      · have h := h.2 c18
        refine g_iload dX11_layMoves_81 rfl ?_
        refine g_aload_n dX11_layMoves_83 rfl rfl ?_
        refine g_getR (r' := 91) flX11_66 (by decide) rfl (by decide) rfl dX11_layMoves_84 ?_
        refine g_iload dX11_layMoves_87 rfl ?_
        obtain ⟨p22, h⟩ := h
        obtain ⟨p23, h⟩ := h
        refine g_iald (by decide) rfl p22 p23 dX11_layMoves_89 ?_
        refine g_icmp_ge (tgt := 97) dX11_layMoves_90 (by decide) (fun c24 => ?_) (fun c24 => ?_)
        · have h := h.1 c24
          refine g_iconst dX11_layMoves_97 (by decide) ?_
          refine g_istore_n (ls' := [some (.inr 73), some (.inl x1), none, some (.inl 0), some (.inl x4), some (.inl v15)]) dX11_layMoves_98 rfl (by decide) rfl ?_
          refine g_aload_n dX11_layMoves_99 rfl rfl ?_
          refine g_getR (r' := 91) flX11_66 (by decide) rfl (by decide) rfl dX11_layMoves_100 ?_
          refine g_iload dX11_layMoves_103 rfl ?_
          refine g_iload dX11_layMoves_105 rfl ?_
          refine g_iast (by decide) rfl p22 p23 dX11_layMoves_107 ?_
          obtain ⟨p25, h⟩ := h
          refine g_iinc (ls' := [some (.inr 73), some (.inl x1), none, some (.inl 0), some (.inl (x4 + 1)), some (.inl v15)]) dX11_layMoves_108 (by decide) rfl p25 rfl ?_
          refine g_goto (tgt := 49) dX11_layMoves_111 (by decide) ?_
          refine g_kill (i := 5) (ls' := [some (.inr 73), some (.inl x1), none, some (.inl 0), some (.inl (x4 + 1)), none]) rfl ?_
          exact h
        · have h := h.2 c24
          refine g_iconst dX11_layMoves_93 (by decide) ?_
          refine g_goto (tgt := 98) dX11_layMoves_94 (by decide) ?_
          refine g_istore_n (ls' := [some (.inr 73), some (.inl x1), none, some (.inl 1), some (.inl x4), some (.inl v15)]) dX11_layMoves_98 rfl (by decide) rfl ?_
          refine g_aload_n dX11_layMoves_99 rfl rfl ?_
          refine g_getR (r' := 91) flX11_66 (by decide) rfl (by decide) rfl dX11_layMoves_100 ?_
          refine g_iload dX11_layMoves_103 rfl ?_
          refine g_iload dX11_layMoves_105 rfl ?_
          refine g_iast (by decide) rfl p22 p23 dX11_layMoves_107 ?_
          obtain ⟨p26, h⟩ := h
          refine g_iinc (ls' := [some (.inr 73), some (.inl x1), none, some (.inl 1), some (.inl (x4 + 1)), some (.inl v15)]) dX11_layMoves_108 (by decide) rfl p26 rfl ?_
          refine g_goto (tgt := 49) dX11_layMoves_111 (by decide) ?_
          refine g_kill (i := 5) (ls' := [some (.inr 73), some (.inl x1), none, some (.inl 1), some (.inl (x4 + 1)), none]) rfl ?_
          exact h
/-- steps to the aim and what they cost -/
def ptc (D : Dt) (q : List Nat) : Nat → List Nat → Int → Prop
  | 0, p, c => p = q ∧ c = 0
  | k + 1, p, c => ∃ a s, a < dm D ∧ s < dn D ∧ s ∉ p ∧ ptc D q k (p.set a s) (c - wOf D a)
def TI (D : Dt) (q : List Nat) (F : Nat → Int) (L : List (List Nat)) : Prop := (∀ t, t < 6 ^ dm D → 0 ≤ F t ∧ F t ≤ 100000000) ∧ (∀ t, t < 6 ^ dm D → ¬ okP (dn D) (dig (dm D) t) → F t = 100000000) ∧ F (nm q) = 0 ∧ (∀ t, t < 6 ^ dm D → F t ≠ 100000000 → dig (dm D) t ∈ L ∧ F t + 50001 ≤ L.length * 50001 ∧ ∃ k, ptc D q k (dig (dm D) t) (F t)) ∧ L.Nodup ∧ ∀ p ∈ L, p.length = dm D ∧ okP (dn D) p ∧ F (nm p) ≠ 100000000
theorem fup_self {F : Nat → Int} {t : Nat} : fup F t (F t) = F := by
  funext i
  unfold fup
  by_cases e : i = t
  · rw [if_pos e, e]
  · rw [if_neg e]
theorem sumF_fup {F : Nat → Int} {t : Nat} {v : Int} : ∀ n, sumF (fup F t v) n = sumF F n + (if t < n then v - F t else 0)
  | 0 => by simp [sumF]
  | n + 1 => by
    rw [sumF_succ, sumF_succ, sumF_fup n]
    unfold fup
    by_cases e : n = t
    · rw [if_pos e, if_neg (by omega), if_pos (by omega), e]; omega
    · rw [if_neg e]
      by_cases q : t < n
      · rw [if_pos q, if_pos (by omega)]; omega
      · rw [if_neg q, if_neg (by omega)]; omega
theorem TI.low {Z : Zt} (hZ : GZ Z) {q : List Nat} {F : Nat → Int} {L : List (List Nat)} {t a s : Nat} {v : Int} (hT : TI (zD Z) q F L) (ht : t < 6 ^ dm (zD Z)) (hok : okP (dn (zD Z)) (dig (dm (zD Z)) t)) (ha : a < dm (zD Z)) (hs : s < dn (zD Z)) (hv : v = wstV (zD Z) F (dig (dm (zD Z)) t) a s) (hlt : v < F t) : ∃ L', TI (zD Z) q (fup F t v) L' := by
  obtain ⟨t1, t2, t3, t4, t5, t6⟩ := hT
  have hn6 := hZ.n6
  have h5 := hZ.m5
  have hw := hZ.wf.2.2.2.2.2.2.2.2.1 a (by omega)
  have hbt := t1 t ht
  have hlen := dig_len (dm (zD Z)) t
  have h6 := dig_lt (dm (zD Z)) t
  unfold wstV at hv
  by_cases hm : s ∈ dig (dm (zD Z)) t
  · rw [if_pos hm] at hv; omega
  rw [if_neg hm] at hv
  by_cases hF : F (nm ((dig (dm (zD Z)) t).set a s)) = 100000000
  · rw [if_pos hF] at hv; omega
  rw [if_neg hF] at hv
  have hset6 := set_s6 (a := a) h6 (show s < 6 by omega)
  have hsl : ((dig (dm (zD Z)) t).set a s).length = dm (zD Z) := by rw [List.length_set]; exact hlen
  have hlt2 := nm_lt _ hset6
  rw [hsl] at hlt2
  have hb2 := t1 _ hlt2
  obtain ⟨u1, u2, k, u3⟩ := t4 _ hlt2 hF
  rw [dig_nm _ _ hsl hset6] at u1 u3
  have hv0 : 0 ≤ v := by unfold wOf at hv; omega
  have htq : t ≠ nm q := fun e => by rw [e, t3] at hlt; omega
  have f1 : fup F t v t = v := by simp [fup]
  have f2 : ∀ i, i ≠ t → fup F t v i = F i := fun i e => by simp [fup, e]
  have hpath : ptc (zD Z) q (k + 1) (dig (dm (zD Z)) t) v := ⟨a, s, ha, hs, hm, by rw [show v - wOf (zD Z) a = F (nm ((dig (dm (zD Z)) t).set a s)) by omega]; exact u3⟩
  have hbd : ∀ i, i < 6 ^ dm (zD Z) → 0 ≤ fup F t v i ∧ fup F t v i ≤ 100000000 := fun i hi => by
    by_cases e : i = t
    · rw [e, f1]; omega
    · rw [f2 i e]; exact t1 i hi
  have hinv : ∀ i, i < 6 ^ dm (zD Z) → ¬ okP (dn (zD Z)) (dig (dm (zD Z)) i) → fup F t v i = 100000000 := fun i hi hno => by
    by_cases e : i = t
    · rw [e] at hno; exact absurd hok hno
    · rw [f2 i e]; exact t2 i hi hno
  by_cases hFt : F t = 100000000
  · have hnL : dig (dm (zD Z)) t ∉ L := fun w => (t6 _ w).2.2 (by rw [nm_dig _ _ ht]; exact hFt)
    refine ⟨dig (dm (zD Z)) t :: L, hbd, hinv, by rw [f2 _ (Ne.symm htq)]; exact t3, fun i hi hne => ?_, List.nodup_cons.mpr ⟨hnL, t5⟩, fun p hp => ?_⟩
    · rw [List.length_cons]
      by_cases e : i = t
      · rw [e, f1]
        refine ⟨List.mem_cons_self .., ?_, k + 1, hpath⟩
        unfold wOf at hv
        omega
      · rw [f2 i e] at hne ⊢
        obtain ⟨g1, g2, g3⟩ := t4 i hi hne
        exact ⟨List.mem_cons_of_mem _ g1, by omega, g3⟩
    · rcases List.mem_cons.mp hp with rfl | hp
      · exact ⟨hlen, hok, by rw [nm_dig _ _ ht, f1]; omega⟩
      · have := t6 p hp
        refine ⟨this.1, this.2.1, ?_⟩
        rw [f2 _ (fun e => hnL (by rw [← e, dig_nm _ p this.1 (okP.s6 hZ this.2.1)]; exact hp))]
        exact this.2.2
  · obtain ⟨g1, g2, g3⟩ := t4 t ht hFt
    refine ⟨L, hbd, hinv, by rw [f2 _ (Ne.symm htq)]; exact t3, fun i hi hne => ?_, t5, fun p hp => ?_⟩
    · by_cases e : i = t
      · rw [e, f1]
        exact ⟨g1, by omega, k + 1, hpath⟩
      · rw [f2 i e] at hne ⊢
        exact t4 i hi hne
    · have := t6 p hp
      refine ⟨this.1, this.2.1, ?_⟩
      by_cases e : nm p = t
      · rw [e, f1]; omega
      · rw [f2 _ e]; exact this.2.2
def lmQ (Z : Zt) (q : List Nat) (σ : Mem) (_ : Int) (σ1 : Mem) : Prop := (∃ L, TI (zD Z) q (σ1 91) L) ∧ (∀ t, t < 6 ^ dm (zD Z) → okP (dn (zD Z)) (dig (dm (zD Z)) t) → ∀ a s, a < dm (zD Z) → s < dn (zD Z) → σ1 91 t ≤ wstV (zD Z) (σ1 91) (dig (dm (zD Z)) t) a s) ∧ Same [88, 91] σ σ1
theorem c_X11_layMoves {Z : Zt} {σ : Mem} {q : List Nat} (hZ : GZ Z) (hM : MI Z σ) (hl : q.length = dm (zD Z)) (hok : okP (dn (zD Z)) q) (hq : hld σ 88 q) : CM mX11_layMoves [.inr 73] σ (lmQ Z q σ) := by
  have h5 := hZ.m5
  have hp6 := pow6_le h5
  have h6 := okP.s6 hZ hok
  have hqlt := nm_lt q h6
  rw [hl] at hqlt
  have hM' : ∀ σ0, Same [88, 91] σ σ0 → MI Z σ0 := fun σ0 h => hM.same (MSm.same h (by decide)) (by decide)
  have main : ∀ (N : Nat) (σ0 : Mem) (L : List (List Nat)), sumF (σ0 91) (6 ^ dm (zD Z)) < (N : Int) → TI (zD Z) q (σ0 91) L → Same [88, 91] σ σ0 → GO none mX11_layMoves 40 [some (.inr 73), some (.inl ((6 ^ dm (zD Z) : Nat) : Int)), none, some (.inl 1), none, none] [] σ0 (lmQ Z q σ) := by
    intro N
    induction N with
    | zero =>
      intro σ0 L hN hT hS
      have := sumF_bd (f := σ0 91) (c := 100000000) (n := 6 ^ dm (zD Z)) (fun i hi => hT.1 i hi)
      omega
    | succ N ihN =>
      intro σ0 L hN hT hS
      refine rX11_layMoves_40 ⟨fun h => by omega, fun _ => ?_⟩
      have pass : ∀ (d k : Nat) (w : Int) (σ1 : Mem) (L1 : List (List Nat)), k + d = 6 ^ dm (zD Z) → TI (zD Z) q (σ1 91) L1 → Same [88, 91] σ σ1 → ((w = 1 ∧ sumF (σ1 91) (6 ^ dm (zD Z)) < sumF (σ0 91) (6 ^ dm (zD Z))) ∨ (w = 0 ∧ σ1 91 = σ0 91 ∧ ∀ t, t < k → okP (dn (zD Z)) (dig (dm (zD Z)) t) → ∀ a s, a < dm (zD Z) → s < dn (zD Z) → σ0 91 t ≤ wstV (zD Z) (σ0 91) (dig (dm (zD Z)) t) a s)) → GO none mX11_layMoves 49 [some (.inr 73), some (.inl ((6 ^ dm (zD Z) : Nat) : Int)), none, some (.inl w), some (.inl (k : Int)), none] [] σ1 (lmQ Z q σ) := by
        intro d
        generalize hSS : 6 ^ dm (zD Z) = S at *
        induction d with
        | zero =>
          intro k w σ1 L1 hd hT1 hS1 hw
          refine rX11_layMoves_49 ⟨fun _ => ?_, fun h => by omega⟩
          rcases hw with ⟨rfl, hlt⟩ | ⟨rfl, he, hfix⟩
          · exact ihN σ1 L1 (by omega) hT1 hS1
          · refine rX11_layMoves_40 ⟨fun _ => ⟨⟨L1, hT1⟩, fun t ht hk a s ha hs => ?_, hS1⟩, fun h => absurd rfl h⟩
            rw [he]
            exact hfix t (by omega) hk a s ha hs
        | succ d ih =>
          intro k w σ1 L1 hd hT1 hS1 hw
          have hk : k < 6 ^ dm (zD Z) := by omega
          have hkS : k < S := by omega
          refine rX11_layMoves_49 ⟨fun h => by omega, fun _ => CM.mono (fun v σ2 hq2 => ?_) (c_X11_layRow hZ (hM' σ1 hS1) hk rfl)⟩
          obtain ⟨hv, hh, hSa⟩ := hq2
          have e91 : σ2 91 = σ1 91 := hSa 91 (by decide)
          have hS2 : Same [88, 91] σ σ2 := hS1.tr (hSa.wk (by decide))
          have hlen := dig_len (dm (zD Z)) k
          have h6d := dig_lt (dm (zD Z)) k
          have hnk := nm_dig _ _ hk
          -- the value stays
          have stay : ∀ (σ3 : Mem), σ3 91 = σ1 91 → Same [88, 91] σ σ3 → (okP (dn (zD Z)) (dig (dm (zD Z)) k) → ∀ a s, a < dm (zD Z) → s < dn (zD Z) → σ1 91 k ≤ wstV (zD Z) (σ1 91) (dig (dm (zD Z)) k) a s) → GO none mX11_layMoves 49 [some (.inr 73), some (.inl (S : Int)), none, some (.inl w), some (.inl ((k : Int) + 1)), none] [] (mu σ3 91 k (σ1 91 k)) (lmQ Z q σ) := fun σ3 e3 hS3 hfx => by
            have e : mu σ3 91 k (σ1 91 k) 91 = σ1 91 := by rw [mu_setA, setA_eq, e3, fup_self]
            refine ih (k + 1) w _ L1 (by omega) (by rw [e]; exact hT1) (hS3.tr (Same.mu (by decide))) ?_
            rw [e]
            rcases hw with hw | ⟨h1, h2, h3⟩
            · exact Or.inl hw
            · refine Or.inr ⟨h1, h2, fun t ht hk2 a s ha hs => ?_⟩
              by_cases z : t = k
              · rw [z, ← h2]
                rw [z] at hk2
                exact hfx hk2 a s ha hs
              · exact h3 t (by omega) hk2 a s ha hs
          refine ⟨fun h0 => ?_, fun h0 => ?_⟩
          · have hno := (hv.resolve_left (fun z => by omega)).2
            have hF := hT1.2.1 k hk hno
            rw [Int.toNat_natCast, e91]
            have st := stay σ2 e91 hS2 (fun z => absurd z hno)
            rw [hF] at st ⊢
            rcases hw with ⟨rfl, -⟩ | ⟨rfl, -⟩
            · exact ⟨fun _ => ⟨by omega, by omega, by omega, st⟩, fun h => by omega⟩
            · exact ⟨fun h => absurd rfl h, fun _ => ⟨by omega, by omega, fun _ => ⟨by omega, st⟩, fun h => by omega⟩⟩
          · have hyes := (hv.resolve_right (fun z => h0 z.1)).2
            refine CM.mono (fun v2 σ3 hq3 => ?_) (c_X11_leastStep (p := dig (dm (zD Z)) k) hZ (hM' σ2 hS2) hlen h6d (by rw [e91]; exact hT1.1) (by rw [hnk]))
            obtain ⟨⟨l1, l2, l3⟩, hSb⟩ := hq3
            have e391 : σ3 91 = σ1 91 := by rw [hSb 91 (by decide)]; exact e91
            have hS3 : Same [88, 91] σ σ3 := hS2.tr (hSb.wk (by decide))
            rw [e91, hnk] at l1 l3
            rw [e91] at l2
            rw [Int.toNat_natCast, e391]
            have st := stay σ3 e391 hS3
            -- the value falls
            have fall : v2 ≠ σ1 91 k → GO none mX11_layMoves 49 [some (.inr 73), some (.inl (S : Int)), none, some (.inl 1), some (.inl ((k : Int) + 1)), none] [] (mu σ3 91 k v2) (lmQ Z q σ) := fun hne => by
              obtain ⟨a, s, ha, hs, hv2, hlt⟩ := l3.resolve_left hne
              obtain ⟨L2, hT2⟩ := TI.low hZ hT1 hk hyes ha hs hv2 hlt
              have e : mu σ3 91 k v2 91 = fup (σ1 91) k v2 := by rw [mu_setA, setA_eq, e391]
              refine ih (k + 1) 1 _ L2 (by omega) (by rw [e]; exact hT2) (hS3.tr (Same.mu (by decide))) (Or.inl ⟨rfl, ?_⟩)
              rw [e, sumF_fup, if_pos hkS]
              rcases hw with ⟨-, h1⟩ | ⟨-, h1, -⟩
              · omega
              · rw [h1] at hlt ⊢; omega
            by_cases hne : v2 = σ1 91 k
            · have st2 := st (fun _ a s ha hs => by rw [← hne]; exact l2 a s ha hs)
              rw [← hne] at st2
              rcases hw with ⟨rfl, -⟩ | ⟨rfl, -⟩
              · exact ⟨fun _ => ⟨by omega, by omega, by omega, st2⟩, fun h => by omega⟩
              · exact ⟨fun h => absurd rfl h, fun _ => ⟨by omega, by omega, fun _ => ⟨by omega, st2⟩, fun h => by omega⟩⟩
            · exact ⟨fun _ => ⟨by omega, by omega, by omega, fall hne⟩, fun _ => ⟨by omega, by omega, fun h => by omega, fun h => ⟨by omega, fall hne⟩⟩⟩
      exact pass (6 ^ dm (zD Z)) 0 0 σ0 L (by omega) hT hS (Or.inr ⟨rfl, rfl, fun t h => by omega⟩)
  have fill : ∀ (d k : Nat) (σ0 : Mem), k + d = 6 ^ dm (zD Z) → Same [88, 91] σ σ0 → (∀ t, t < k → σ0 91 t = 100000000) → GO none mX11_layMoves 12 [some (.inr 73), some (.inl ((6 ^ dm (zD Z) : Nat) : Int)), some (.inl (nm q : Int)), some (.inl (k : Int)), none, none] [] σ0 (lmQ Z q σ) := by
    intro d
    induction d with
    | zero =>
      intro k σ0 hd hS hf
      refine rX11_layMoves_12 ⟨fun _ => ⟨by omega, by omega, ?_⟩, fun h => by omega⟩
      rw [Int.toNat_natCast]
      have hF : ∀ t, t < 6 ^ dm (zD Z) → mu σ0 91 (nm q) 0 91 t = if t = nm q then 0 else 100000000 := fun t ht => by
        rw [mu_at]
        by_cases e : t = nm q
        · rw [if_pos e, if_pos e]
        · rw [if_neg e, if_neg e]; exact hf t (by omega)
      refine main ((sumF (mu σ0 91 (nm q) 0 91) (6 ^ dm (zD Z))).toNat + 1) _ [q] (by omega) ⟨fun t ht => ?_, fun t ht hno => ?_, by rw [hF _ hqlt, if_pos rfl], fun t ht hne => ?_, by simp, fun p hp => ?_⟩ (hS.tr (Same.mu (by decide)))
      · rw [hF t ht]; split <;> omega
      · rw [hF t ht, if_neg]
        intro e
        rw [e, dig_nm _ q hl h6] at hno
        exact hno hok
      · rw [hF t ht] at hne ⊢
        by_cases e : t = nm q
        · rw [if_pos e, e, dig_nm _ q hl h6]
          exact ⟨by simp, by simp, 0, rfl, rfl⟩
        · rw [if_neg e] at hne
          exact absurd rfl hne
      · rw [List.mem_singleton.mp hp, hF _ hqlt, if_pos rfl]
        exact ⟨hl, hok, by omega⟩
    | succ d ih =>
      intro k σ0 hd hS hf
      refine rX11_layMoves_12 ⟨fun h => by omega, fun _ => ⟨by omega, by omega, by omega, ?_⟩⟩
      rw [Int.toNat_natCast]
      refine ih (k + 1) _ (by omega) (hS.tr (Same.mu (by decide))) (fun t ht => ?_)
      rw [mu_at]
      by_cases e : t = k
      · rw [if_pos e]
      · rw [if_neg e]; exact hf t (by omega)
  refine rX11_layMoves_0 (CM.mono (fun v σ1 hq1 => ?_) (c_X11_allNumbers hZ hM))
  obtain ⟨rfl, rfl⟩ := hq1
  refine CM.mono (fun v σ1 hq1 => ?_) (c_X11_numberOf hZ hM hl h6 hq)
  obtain ⟨rfl, rfl⟩ := hq1
  exact fill (6 ^ dm (zD Z)) 0 _ (by omega) Same.rf (fun t h => by omega)
