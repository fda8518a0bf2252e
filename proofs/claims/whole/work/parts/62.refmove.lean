/-! ===== the reference: move, step ===== -/
set_option maxRecDepth 100000 in
theorem rX11_move_0 {x1 : Int}  {σ : Mem} {Q : Int → Mem → Prop} (h : CM mX11_layTold [.inr 73, .inl x1] σ (fun v1 σ2 => (v1 ≠ 0 → CM mX11_layMoves [.inr 73] σ2 (fun _ σ6 => CM mX11_takeNow [.inr 73] σ6 (fun _ σ9 => CM mX11_numberOf [.inr 73] σ9 (fun v11 σ12 => ((0 ≤ v11) ∧ (((v11 < 7776) ∧ (((σ12 91 (v11).toNat) ≠ 100000000 → Q (Int.tdiv (σ12 91 (v11).toNat) 1000) σ12) ∧ ((σ12 91 (v11).toNat) = 100000000 → Q (-1) σ12))))))))) ∧ (v1 = 0 → Q (-2) σ2))) : CM mX11_move [.inr 73, .inl x1] σ Q := by
  refine CM_of_GO (by decide +kernel) rfl (Nat.le_of_ble_eq_true rfl) ?_
  show GO none mX11_move 0 [some (.inr 73), some (.inl x1), none] [] σ Q
  refine g_aload_n dX11_move_0 rfl rfl ?_
  refine g_iload_n dX11_move_1 rfl rfl ?_
  refine g_invVI (as := [.inl x1]) (rest := []) okX11_layTold mlX11_120 (by decide) rfl ⟨_, _, rfl⟩ rfl ⟨Nat.le_of_ble_eq_true rfl, Nat.le_of_ble_eq_true rfl⟩ (Nat.le_of_ble_eq_true rfl) rfl dX11_move_2 h (Or.inr rfl) (fun v1 σ2 e3 => ?_)
  have h := e3
  refine g_if_ne (tgt := 11) dX11_move_5 (by decide) (fun c4 => ?_) (fun c4 => ?_)
  · have h := h.1 c4
    refine g_aload_n dX11_move_11 rfl rfl ?_
    refine g_invVV (as := []) (rest := []) okX11_layMoves mlX11_184 (by decide) rfl ⟨_, _, rfl⟩ rfl ⟨Nat.le_of_ble_eq_true rfl, Nat.le_of_ble_eq_true rfl⟩ (Nat.le_of_ble_eq_true rfl) rfl dX11_move_12 h rfl (fun σ6 e7 => ?_)
    have h := e7
    refine g_aload_n dX11_move_15 rfl rfl ?_
    refine g_invVV (as := []) (rest := []) okX11_takeNow mlX11_126 (by decide) rfl ⟨_, _, rfl⟩ rfl ⟨Nat.le_of_ble_eq_true rfl, Nat.le_of_ble_eq_true rfl⟩ (Nat.le_of_ble_eq_true rfl) rfl dX11_move_16 h rfl (fun σ9 e10 => ?_)
    have h := e10
    refine g_aload_n dX11_move_19 rfl rfl ?_
    refine g_getR (r' := 91) flX11_66 (by decide) rfl (by decide) rfl dX11_move_20 ?_
    refine g_aload_n dX11_move_23 rfl rfl ?_
    refine g_invVI (as := []) (rest := [.inr 91]) okX11_numberOf mlX11_159 (by decide) rfl ⟨_, _, rfl⟩ rfl ⟨Nat.le_of_ble_eq_true rfl, Nat.le_of_ble_eq_true rfl⟩ (Nat.le_of_ble_eq_true rfl) rfl dX11_move_24 h (Or.inl rfl) (fun v11 σ12 e13 => ?_)
    have h := e13
    obtain ⟨p14, h⟩ := h
    obtain ⟨p15, h⟩ := h
    refine g_iald (by decide) rfl p14 p15 dX11_move_27 ?_
    refine g_istore_n (ls' := [some (.inr 73), some (.inl x1), some (.inl (σ12 91 (v11).toNat))]) dX11_move_28 rfl (by decide) rfl ?_
    refine g_iload_n dX11_move_29 rfl rfl ?_
    refine g_ldc (n := 100000000) dX11_move_30 kcX11_138 (by decide) (by decide) ?_
    refine g_icmp_ne (tgt := 39) dX11_move_32 (by decide) (fun c16 => ?_) (fun c16 => ?_)
    · have h := h.1 c16
      refine g_iload_n dX11_move_39 rfl rfl ?_
      refine g_sipush dX11_move_40 (by decide) (by decide) ?_
      refine g_idiv dX11_move_43 (by decide) ?_
      exact g_ireturn rfl dX11_move_44 h
    · have h := h.2 c16
      refine g_iconst dX11_move_35 (by decide) ?_
      refine g_goto (tgt := 44) dX11_move_36 (by decide) ?_
      exact g_ireturn rfl dX11_move_44 h
  · have h := h.2 c4
    refine g_bipush dX11_move_8 (by decide) (by decide) ?_
    exact g_ireturn rfl dX11_move_10 h
set_option maxRecDepth 100000 in
theorem rX11_step_0 {x1 x2 : Int}  {σ : Mem} {Q : Int → Mem → Prop} (h : (x2 < 0 → Q (-2) σ) ∧ (0 ≤ x2 → CM mX11_layTold [.inr 73, .inl x1] σ (fun v2 σ3 => (v2 ≠ 0 → CM mX11_layMoves [.inr 73] σ3 (fun _ σ7 => CM mX11_takeNow [.inr 73] σ7 (fun _ σ10 => CM mX11_numberOf [.inr 73] σ10 (fun v12 σ13 => GO none mX11_step 34 [some (.inr 73), some (.inl x1), some (.inl x2), some (.inl v12), some (.inl (-1)), some (.inl 0), none] [] σ13 Q)))) ∧ (v2 = 0 → Q (-2) σ3)))) : CM mX11_step [.inr 73, .inl x1, .inl x2] σ Q := by
  refine CM_of_GO (by decide +kernel) rfl (Nat.le_of_ble_eq_true rfl) ?_
  show GO none mX11_step 0 [some (.inr 73), some (.inl x1), some (.inl x2), none, none, none, none] [] σ Q
  refine g_iload_n dX11_step_0 rfl rfl ?_
  refine g_if_lt (tgt := 12) dX11_step_1 (by decide) (fun c1 => ?_) (fun c1 => ?_)
  · have h := h.1 c1
    refine g_bipush dX11_step_12 (by decide) (by decide) ?_
    exact g_ireturn rfl dX11_step_14 h
  · have h := h.2 c1
    refine g_aload_n dX11_step_4 rfl rfl ?_
    refine g_iload_n dX11_step_5 rfl rfl ?_
    refine g_invVI (as := [.inl x1]) (rest := []) okX11_layTold mlX11_120 (by decide) rfl ⟨_, _, rfl⟩ rfl ⟨Nat.le_of_ble_eq_true rfl, Nat.le_of_ble_eq_true rfl⟩ (Nat.le_of_ble_eq_true rfl) rfl dX11_step_6 h (Or.inr rfl) (fun v2 σ3 e4 => ?_)
    have h := e4
    refine g_if_ne (tgt := 15) dX11_step_9 (by decide) (fun c5 => ?_) (fun c5 => ?_)
    · have h := h.1 c5
      refine g_aload_n dX11_step_15 rfl rfl ?_
      refine g_invVV (as := []) (rest := []) okX11_layMoves mlX11_184 (by decide) rfl ⟨_, _, rfl⟩ rfl ⟨Nat.le_of_ble_eq_true rfl, Nat.le_of_ble_eq_true rfl⟩ (Nat.le_of_ble_eq_true rfl) rfl dX11_step_16 h rfl (fun σ7 e8 => ?_)
      have h := e8
      refine g_aload_n dX11_step_19 rfl rfl ?_
      refine g_invVV (as := []) (rest := []) okX11_takeNow mlX11_126 (by decide) rfl ⟨_, _, rfl⟩ rfl ⟨Nat.le_of_ble_eq_true rfl, Nat.le_of_ble_eq_true rfl⟩ (Nat.le_of_ble_eq_true rfl) rfl dX11_step_20 h rfl (fun σ10 e11 => ?_)
      have h := e11
      refine g_aload_n dX11_step_23 rfl rfl ?_
      refine g_invVI (as := []) (rest := []) okX11_numberOf mlX11_159 (by decide) rfl ⟨_, _, rfl⟩ rfl ⟨Nat.le_of_ble_eq_true rfl, Nat.le_of_ble_eq_true rfl⟩ (Nat.le_of_ble_eq_true rfl) rfl dX11_step_24 h (Or.inl rfl) (fun v12 σ13 e14 => ?_)
      have h := e14
      refine g_istore_n (ls' := [some (.inr 73), some (.inl x1), some (.inl x2), some (.inl v12), none, none, none]) dX11_step_27 rfl (by decide) rfl ?_
      refine g_iconst dX11_step_28 (by decide) ?_
      refine g_istore (ls' := [some (.inr 73), some (.inl x1), some (.inl x2), some (.inl v12), some (.inl (-1)), none, none]) dX11_step_29 (by decide) rfl ?_
      refine g_iconst dX11_step_31 (by decide) ?_
      refine g_istore (ls' := [some (.inr 73), some (.inl x1), some (.inl x2), some (.inl v12), some (.inl (-1)), some (.inl 0), none]) dX11_step_32 (by decide) rfl ?_
      exact h
    · have h := h.2 c5
      refine g_bipush dX11_step_12 (by decide) (by decide) ?_
      exact g_ireturn rfl dX11_step_14 h
set_option maxRecDepth 100000 in
theorem rX11_step_34 {x1 x2 x3 x4 x5 : Int}  {σ : Mem} {Q : Int → Mem → Prop} (h : (x2 < x5 → Q x4 σ) ∧ (x5 ≤ x2 → ((0 ≤ x3) ∧ (((x3 < 7776) ∧ (((σ 91 (x3).toNat) = 0 → Q (-1) σ) ∧ ((σ 91 (x3).toNat) ≠ 0 → ((σ 91 (x3).toNat) ≠ 100000000 → GO none mX11_step 65 [some (.inr 73), some (.inl x1), some (.inl x2), some (.inl x3), none, some (.inl x5), some (.inl 0)] [] σ Q) ∧ ((σ 91 (x3).toNat) = 100000000 → Q (-1) σ)))))))) : GO none mX11_step 34 [some (.inr 73), some (.inl x1), some (.inl x2), some (.inl x3), some (.inl x4), some (.inl x5), none] [] σ Q := by
  refine g_iload dX11_step_34 rfl ?_
  refine g_iload_n dX11_step_36 rfl rfl ?_
  refine g_icmp_gt (tgt := 133) dX11_step_37 (by decide) (fun c1 => ?_) (fun c1 => ?_)
  · have h := h.1 c1
    refine g_iload dX11_step_133 rfl ?_
    exact g_ireturn rfl dX11_step_135 h
  · have h := h.2 c1
    refine g_aload_n dX11_step_40 rfl rfl ?_
    refine g_getR (r' := 91) flX11_66 (by decide) rfl (by decide) rfl dX11_step_41 ?_
    refine g_iload_n dX11_step_44 rfl rfl ?_
    obtain ⟨p2, h⟩ := h
    obtain ⟨p3, h⟩ := h
    refine g_iald (by decide) rfl p2 p3 dX11_step_45 ?_
    refine g_if_eq (tgt := 60) dX11_step_46 (by decide) (fun c4 => ?_) (fun c4 => ?_)
    · have h := h.1 c4
      refine g_iconst dX11_step_60 (by decide) ?_
      exact g_ireturn rfl dX11_step_61 h
    · have h := h.2 c4
      refine g_aload_n dX11_step_49 rfl rfl ?_
      refine g_getR (r' := 91) flX11_66 (by decide) rfl (by decide) rfl dX11_step_50 ?_
      refine g_iload_n dX11_step_53 rfl rfl ?_
      refine g_iald (by decide) rfl p2 p3 dX11_step_54 ?_
      refine g_ldc (n := 100000000) dX11_step_55 kcX11_138 (by decide) (by decide) ?_
      refine g_icmp_ne (tgt := 62) dX11_step_57 (by decide) (fun c5 => ?_) (fun c5 => ?_)
      · have h := h.1 c5
        refine g_iconst dX11_step_62 (by decide) ?_
        refine g_istore (ls' := [some (.inr 73), some (.inl x1), some (.inl x2), some (.inl x3), some (.inl x4), some (.inl x5), some (.inl 0)]) dX11_step_63 (by decide) rfl ?_
        refine g_kill (i := 4) (ls' := [some (.inr 73), some (.inl x1), some (.inl x2), some (.inl x3), none, some (.inl x5), some (.inl 0)]) rfl ?_
        exact h
      · have h := h.2 c5
        refine g_iconst dX11_step_60 (by decide) ?_
        exact g_ireturn rfl dX11_step_61 h
set_option maxRecDepth 100000 in
theorem rX11_step_65 {x1 x2 x3 x5 x6 : Int}  {σ : Mem} {Q : Int → Mem → Prop} (h : CM mX11_withStep [.inr 73, .inl x3, .inl (Int.tdiv x6 6), .inl (Int.tmod x6 6)] σ (fun v1 σ2 => ((0 ≤ x3) ∧ (((x3 < 7776) ∧ ((v1 = (σ2 91 (x3).toNat) → ((inR (10 * (Int.tdiv x6 6))) ∧ (((inR ((10 * (Int.tdiv x6 6)) + (Int.tmod x6 6))) ∧ (CM mX11_stepTo [.inr 73, .inl x3, .inl (Int.tdiv x6 6), .inl (Int.tmod x6 6)] σ2 (fun v9 σ10 => ((inR (x5 + 1)) ∧ (GO none mX11_step 34 [some (.inr 73), some (.inl x1), some (.inl x2), some (.inl v9), some (.inl ((10 * (Int.tdiv x6 6)) + (Int.tmod x6 6))), some (.inl (x5 + 1)), none] [] σ10 Q)))))))) ∧ (v1 ≠ (σ2 91 (x3).toNat) → ((inR (x6 + 1)) ∧ (GO none mX11_step 65 [some (.inr 73), some (.inl x1), some (.inl x2), some (.inl x3), none, some (.inl x5), some (.inl (x6 + 1))] [] σ2 Q))))))))) : GO none mX11_step 65 [some (.inr 73), some (.inl x1), some (.inl x2), some (.inl x3), none, some (.inl x5), some (.inl x6)] [] σ Q := by
  refine g_aload_n dX11_step_65 rfl rfl ?_
  refine g_iload_n dX11_step_66 rfl rfl ?_
  refine g_iload dX11_step_67 rfl ?_
  refine g_bipush dX11_step_69 (by decide) (by decide) ?_
  refine g_idiv dX11_step_71 (by decide) ?_
  refine g_iload dX11_step_72 rfl ?_
  refine g_bipush dX11_step_74 (by decide) (by decide) ?_
  refine g_irem dX11_step_76 (by decide) ?_
  refine g_invVI (as := [.inl x3, .inl (Int.tdiv x6 6), .inl (Int.tmod x6 6)]) (rest := []) okX11_withStep mlX11_178 (by decide) rfl ⟨_, _, rfl⟩ rfl ⟨Nat.le_of_ble_eq_true rfl, Nat.le_of_ble_eq_true rfl⟩ (Nat.le_of_ble_eq_true rfl) rfl dX11_step_77 h (Or.inl rfl) (fun v1 σ2 e3 => ?_)
  have h := e3
  refine g_aload_n dX11_step_80 rfl rfl ?_
  refine g_getR (r' := 91) flX11_66 (by decide) rfl (by decide) rfl dX11_step_81 ?_
  refine g_iload_n dX11_step_84 rfl rfl ?_
  obtain ⟨p4, h⟩ := h
  obtain ⟨p5, h⟩ := h
  refine g_iald (by decide) rfl p4 p5 dX11_step_85 ?_
  refine g_icmp_eq (tgt := 95) dX11_step_86 (by decide) (fun c6 => ?_) (fun c6 => ?_)
  · have h := h.1 c6
    refine g_bipush dX11_step_95 (by decide) (by decide) ?_
    refine g_iload dX11_step_97 rfl ?_
    refine g_bipush dX11_step_99 (by decide) (by decide) ?_
    refine g_idiv dX11_step_101 (by decide) ?_
    obtain ⟨p7, h⟩ := h
    refine g_imul dX11_step_102 p7 ?_
    refine g_iload dX11_step_103 rfl ?_
    refine g_bipush dX11_step_105 (by decide) (by decide) ?_
    refine g_irem dX11_step_107 (by decide) ?_
    obtain ⟨p8, h⟩ := h
    refine g_iadd dX11_step_108 p8 ?_
    refine g_istore (ls' := [some (.inr 73), some (.inl x1), some (.inl x2), some (.inl x3), some (.inl ((10 * (Int.tdiv x6 6)) + (Int.tmod x6 6))), some (.inl x5), some (.inl x6)]) dX11_step_109 (by decide) rfl ?_
    refine g_aload_n dX11_step_111 rfl rfl ?_
    refine g_iload_n dX11_step_112 rfl rfl ?_
    refine g_iload dX11_step_113 rfl ?_
    refine g_bipush dX11_step_115 (by decide) (by decide) ?_
    refine g_idiv dX11_step_117 (by decide) ?_
    refine g_iload dX11_step_118 rfl ?_
    refine g_bipush dX11_step_120 (by decide) (by decide) ?_
    refine g_irem dX11_step_122 (by decide) ?_
    refine g_invVI (as := [.inl x3, .inl (Int.tdiv x6 6), .inl (Int.tmod x6 6)]) (rest := []) okX11_stepTo mlX11_174 (by decide) rfl ⟨_, _, rfl⟩ rfl ⟨Nat.le_of_ble_eq_true rfl, Nat.le_of_ble_eq_true rfl⟩ (Nat.le_of_ble_eq_true rfl) rfl dX11_step_123 h (Or.inl rfl) (fun v9 σ10 e11 => ?_)
    have h := e11
    refine g_istore_n (ls' := [some (.inr 73), some (.inl x1), some (.inl x2), some (.inl v9), some (.inl ((10 * (Int.tdiv x6 6)) + (Int.tmod x6 6))), some (.inl x5), some (.inl x6)]) dX11_step_126 rfl (by decide) rfl ?_
    obtain ⟨p12, h⟩ := h
    refine g_iinc (ls' := [some (.inr 73), some (.inl x1), some (.inl x2), some (.inl v9), some (.inl ((10 * (Int.tdiv x6 6)) + (Int.tmod x6 6))), some (.inl (x5 + 1)), some (.inl x6)]) dX11_step_127 (by decide) rfl p12 rfl ?_
    refine g_goto (tgt := 34) dX11_step_130 (by decide) ?_
    refine g_kill (i := 6) (ls' := [some (.inr 73), some (.inl x1), some (.inl x2), some (.inl v9), some (.inl ((10 * (Int.tdiv x6 6)) + (Int.tmod x6 6))), some (.inl (x5 + 1)), none]) rfl ?_
    exact h
  · have h := h.2 c6
    obtain ⟨p13, h⟩ := h
    refine g_iinc (ls' := [some (.inr 73), some (.inl x1), some (.inl x2), some (.inl x3), none, some (.inl x5), some (.inl (x6 + 1))]) dX11_step_89 (by decide) rfl p13 rfl ?_
    refine g_goto (tgt := 65) dX11_step_92 (by decide) ?_
    exact h
theorem aMove_un {Z : Zt} {x v : Int} {q : List Nat} (hZ : GZ Z) (h : aMove Z x v) (hq : tldIs Z x q) : v = lstF (dV (zD Z)) (dn (zD Z)) (zh Z) q := by
  rcases h with ⟨p, hp, e⟩ | ⟨h, -⟩
  · rw [e, tldIs_un hZ hp hq]
  · exact absurd hq (h q)
theorem c_X11_move {Z Z' : Zt} {σ : Mem} {x v : Int} (hZ : GZ Z) (hM : MI Z σ) (hN : nxA Z (aMove Z x) v Z') : CM mX11_move [.inr 73, .inl x] σ (RQ σ v Z') := by
  obtain ⟨hN, rfl⟩ := hN
  refine rX11_move_0 (CM.mono (fun w σ1 hq => ?_) (c_X11_layTold hZ hM))
  obtain ⟨h1, hS⟩ := hq
  have hM1 := hM.same (MSm.same hS (by decide)) (by decide)
  refine ⟨fun hw => ?_, fun hw => ?_⟩
  · obtain ⟨-, q, hq, hh⟩ := h1.resolve_right (fun z => hw z.1)
    refine CM.mono (fun _ σ2 h2 => ?_) (c_X11_layMoves hZ hM1 hq.1 hq.2.1 hh)
    obtain ⟨g1, g2, g3⟩ := h2
    have hM2 := hM1.same (MSm.same g3 (by decide)) (by decide)
    refine CM.mono (fun _ σ3 h3 => ?_) (c_X11_takeNow hZ hM2)
    obtain ⟨t1, t2⟩ := h3
    have hM3 := hM2.same (MSm.same t2 (by decide)) (by decide)
    refine CM.mono (fun w3 σ4 h4 => ?_) (c_X11_numberOf hZ hM3 hZ.len (okP.s6 hZ hZ.ok) t1)
    obtain ⟨rfl, rfl⟩ := h4
    have e91 : σ4 91 = σ2 91 := t2 91 (by decide)
    have hp : PQ Z' (zh Z') := ⟨hZ.len, hZ.ok⟩
    have hq2 : PQ Z' q := ⟨hq.1, hq.2.1⟩
    have ht := tab_move hZ hp hq2 ⟨g1, g2⟩
    have hn := nm_in hZ hp
    have hp6 := pow6_le hZ.m5
    have hv := aMove_un hZ hN hq
    have hSS : Same [88, 91] σ σ4 := ((hS.wk (by decide)).tr g3).tr (t2.wk (by decide))
    have fin : ∀ w, w = v → RQ σ v Z' w σ4 := fun w e => RQ.stay hM (MSm.same hSS (by decide)) (by decide) (by decide) e
    rw [Int.toNat_natCast, e91]
    exact ⟨by omega, by omega, fun h => fin _ (by rw [hv]; exact ht.2.1 h), fun h => fin _ (by rw [hv, ht.1 h])⟩
  · obtain ⟨-, h1⟩ := h1.resolve_left (fun z => by omega)
    rcases hN with ⟨p, hp, -⟩ | ⟨-, rfl⟩
    · exact absurd hp (h1 p)
    · exact RQ.stay hM (MSm.same hS (by decide)) (by decide) (by decide) rfl
theorem lst_ex {P : Nat → Prop} : ∀ n, P n → ∃ k, P k ∧ ∀ j, j < k → ¬ P j := fun n => Nat.strongRecOn n (fun n ih h => by
  by_cases e : ∃ j, j < n ∧ P j
  · obtain ⟨j, hj, hp⟩ := e
    exact ih j hj hp
  · exact ⟨n, h, fun j hj hp => e ⟨j, hj, hp⟩⟩)
theorem c_X11_step {Z Z' : Zt} {σ : Mem} {x i v : Int} (hZ : GZ Z) (hM : MI Z σ) (hN : nxA Z (aStep Z x i) v Z') : CM mX11_step [.inr 73, .inl x, .inl i] σ (RQ σ v Z') := by
  obtain ⟨hN, rfl⟩ := hN
  have hp6 := pow6_le hZ.m5
  have h5 := hZ.m5
  refine rX11_step_0 ⟨fun h => ?_, fun h0 => CM.mono (fun w σ1 hq => ?_) (c_X11_layTold hZ hM)⟩
  · rcases hN with ⟨h2, -⟩ | ⟨-, rfl⟩
    · omega
    · exact RQ.stay (S := []) hM MSm.rf (by decide) (by decide) rfl
  obtain ⟨h1, hS⟩ := hq
  have hM1 := hM.same (MSm.same hS (by decide)) (by decide)
  refine ⟨fun hw => ?_, fun hw => ?_⟩
  · obtain ⟨-, q, hq, hh⟩ := h1.resolve_right (fun z => hw z.1)
    refine CM.mono (fun _ σ2 h2 => ?_) (c_X11_layMoves hZ hM1 hq.1 hq.2.1 hh)
    obtain ⟨g1, g2, g3⟩ := h2
    have hM2 := hM1.same (MSm.same g3 (by decide)) (by decide)
    refine CM.mono (fun _ σ3 h3 => ?_) (c_X11_takeNow hZ hM2)
    obtain ⟨t1, t2⟩ := h3
    have hM3 := hM2.same (MSm.same t2 (by decide)) (by decide)
    refine CM.mono (fun w3 σ4 h4 => ?_) (c_X11_numberOf hZ hM3 hZ.len (okP.s6 hZ hZ.ok) t1)
    obtain ⟨rfl, rfl⟩ := h4
    have e91 : σ4 91 = σ2 91 := t2 91 (by decide)
    have hp : PQ Z' (zh Z') := ⟨hZ.len, hZ.ok⟩
    have hq2 : PQ Z' q := ⟨hq.1, hq.2.1⟩
    have hF : FX Z' q (σ2 91) := ⟨g1, g2⟩
    have hSS : Same [88, 91] σ σ4 := ((hS.wk (by decide)).tr g3).tr (t2.wk (by decide))
    have hv : v = wkF (dV (zD Z')) (dn (zD Z')) q i.toNat (zh Z') := by
      rcases hN with ⟨-, p, hp1, e⟩ | ⟨z, -⟩
      · rw [e, tldIs_un hZ hp1 hq]
        exact wk_seven hZ hp hq2
      · exact absurd ⟨h0, q, hq⟩ z
    have fin : ∀ w σ5, w = v → Same [88, 91] σ σ5 → RQ σ v Z' w σ5 := fun w σ5 e h => RQ.stay hM (MSm.same h (by decide)) (by decide) (by decide) e
    generalize hFe : σ2 91 = F at hF e91
    have hFb : ∀ t, t < 6 ^ dm (zD Z') → 0 ≤ F t ∧ F t ≤ 100000000 := by
      obtain ⟨⟨L, hT⟩, -⟩ := hF
      exact hT.1
    have key : ∀ (N k : Nat) (p : List Nat) (told : Int) (σ0 : Mem), PQ Z' p → Same [88, 91] σ σ0 → σ0 91 = F → (k : Int) ≤ i → lstC w1 p q ≤ (N : Int) → (N : Int) + k ≤ 7 → wkF (dV (zD Z')) (dn (zD Z')) q (i.toNat - k) p = v → GO none mX11_step 34 [some (.inr 73), some (.inl x), some (.inl i), some (.inl (nm p : Int)), some (.inl told), some (.inl (k : Int)), none] [] σ0 (RQ σ v Z') := by
      intro N
      induction N with
      | zero =>
        intro k p told σ0 hp hS0 he hk hN hN7 hv
        have hn := nm_in hZ hp
        have h := lstM hZ hp hq2
        have e : p = q := Classical.byContradiction (fun z => by have := h.2.2.2.2 z; omega)
        have ht := tab_move hZ hp hq2 hF
        have e0 : F (nm p) = 0 := ht.2.2.1.mpr e
        have hnone := wkF_none (fst_none hZ hp hq2 hF (Or.inl e0)) (i.toNat - k)
        refine rX11_step_34 ⟨fun h => by omega, fun _ => ⟨by omega, by omega, ?_⟩⟩
        rw [Int.toNat_natCast, he, e0]
        exact ⟨fun _ => fin _ σ0 (by rw [← hv, hnone]) hS0, fun h => absurd rfl h⟩
      | succ N ih =>
        intro k p told σ0 hp hS0 he hk hN hN7 hv
        have hn := nm_in hZ hp
        have ht := tab_move hZ hp hq2 hF
        refine rX11_step_34 ⟨fun h => by omega, fun _ => ⟨by omega, by omega, ?_⟩⟩
        rw [Int.toNat_natCast, he]
        refine ⟨fun h => fin _ σ0 (by rw [← hv, wkF_none (fst_none hZ hp hq2 hF (Or.inl h))]) hS0, fun hne0 => ⟨fun hneF => ?_, fun h => fin _ σ0 (by rw [← hv, wkF_none (fst_none hZ hp hq2 hF (Or.inr h))]) hS0⟩⟩
        have hne : p ≠ q := fun z => hne0 (ht.2.2.1.mpr z)
        have hnm : dm (zD Z') < dn (zD Z') := Classical.byContradiction (fun z => hneF (((tab_val hZ hp hq2 hF).2 (by omega)).2 hne))
        have h6 := okP.s6 hZ hp.2
        obtain ⟨y0, ⟨a0, s0, ha0, hs0, hy0, hst0⟩, hmin⟩ : ∃ y, (∃ a s, a < dm (zD Z') ∧ s < 6 ∧ y = 6 * a + s ∧ stG Z' p q a s) ∧ ∀ j, j < y → ¬ ∃ a s, a < dm (zD Z') ∧ s < 6 ∧ j = 6 * a + s ∧ stG Z' p q a s := by
          obtain ⟨a, s, ha, hs, h⟩ := step_some hZ hp hq2 hnm hne
          exact lst_ex (6 * a + s) ⟨a, s, ha, hs, rfl, h⟩
        have hfst := fst_first hZ hp hq2 hnm hne ha0 hst0 (fun a' s' ha hs hlt h => hmin (6 * a' + s') (by omega) ⟨a', s', ha, hs, rfl, h⟩)
        have hone := one_less hZ hp hq2 hnm ha0 hst0
        have inner : ∀ (d y : Nat) (σ5 : Mem), y + d = y0 → Same [88, 91] σ σ5 → σ5 91 = F → GO none mX11_step 65 [some (.inr 73), some (.inl x), some (.inl i), some (.inl (nm p : Int)), none, some (.inl (k : Int)), some (.inl (y : Int))] [] σ5 (RQ σ v Z') := by
          intro d
          induction d with
          | zero =>
            intro y σ5 hd hS5 he5
            have ey : y = y0 := by omega
            subst ey
            have ea : Int.tdiv (y : Int) 6 = (a0 : Int) := by rw [Int.tdiv_eq_ediv_of_nonneg (by omega)]; omega
            have es : Int.tmod (y : Int) 6 = (s0 : Int) := by rw [Int.tmod_eq_emod_of_nonneg (by omega)]; omega
            have hM5 := hM.same (MSm.same hS5 (by decide)) (by decide)
            refine rX11_step_65 ?_
            rw [ea, es]
            refine CM.mono (fun v1 σ6 hq6 => ?_) (c_X11_withStep hZ hM5 hp.1 h6 (by rw [he5]; exact hFb) ha0 hs0 rfl rfl rfl)
            obtain ⟨rfl, hS6⟩ := hq6
            have he6 : σ6 91 = F := by rw [hS6 91 (by decide)]; exact he5
            have hSb : Same [88, 91] σ σ6 := hS5.tr (hS6.wk (by decide))
            rw [he5, Int.toNat_natCast, he6]
            have heq := (step_iff hZ hp hq2 hF hnm ha0 hs0).mpr hst0
            refine ⟨by omega, by omega, fun _ => ⟨by omega, by omega, ?_⟩, fun h => absurd heq h⟩
            have hM6 := hM.same (MSm.same hSb (by decide)) (by decide)
            refine CM.mono (fun v9 σ7 hq7 => ?_) (c_X11_stepTo hZ hM6 hp.1 h6 ha0 hs0 rfl rfl rfl)
            obtain ⟨rfl, hS7⟩ := hq7
            have hSc : Same [88, 91] σ σ7 := hSb.tr (hS7.wk (by decide))
            have he7 : σ7 91 = F := by rw [hS7 91 (by decide)]; exact he6
            unfold stV
            rw [if_neg hst0.2.1]
            refine ⟨by omega, ?_⟩
            by_cases hki : (k : Int) = i
            · refine rX11_step_34 ⟨fun _ => fin _ σ7 ?_ hSc, fun h => by omega⟩
              rw [← hv, show i.toNat - k = 0 by omega]
              unfold wkF
              rw [hfst]
            · have hw : wkF (dV (zD Z')) (dn (zD Z')) q (i.toNat - (k + 1)) (p.set a0 s0) = v := by
                rw [← hv, show i.toNat - k = (i.toNat - (k + 1)) + 1 by omega]
                conv => rhs; unfold wkF
                rw [hfst]
              exact ih (k + 1) (p.set a0 s0) _ σ7 hone.1 hSc he7 (by omega) (by omega) (by omega) hw
          | succ d ihd =>
            intro y σ5 hd hS5 he5
            have ea : Int.tdiv (y : Int) 6 = ((y / 6 : Nat) : Int) := by rw [Int.tdiv_eq_ediv_of_nonneg (by omega)]; omega
            have es : Int.tmod (y : Int) 6 = ((y % 6 : Nat) : Int) := by rw [Int.tmod_eq_emod_of_nonneg (by omega)]; omega
            have hM5 := hM.same (MSm.same hS5 (by decide)) (by decide)
            have hay : y / 6 < dm (zD Z') := by omega
            have hsy : y % 6 < 6 := Nat.mod_lt _ (by omega)
            refine rX11_step_65 ?_
            rw [ea, es]
            refine CM.mono (fun v1 σ6 hq6 => ?_) (c_X11_withStep hZ hM5 hp.1 h6 (by rw [he5]; exact hFb) hay hsy rfl rfl rfl)
            obtain ⟨rfl, hS6⟩ := hq6
            have he6 : σ6 91 = F := by rw [hS6 91 (by decide)]; exact he5
            have hSb : Same [88, 91] σ σ6 := hS5.tr (hS6.wk (by decide))
            rw [he5, Int.toNat_natCast, he6]
            refine ⟨by omega, by omega, fun h => absurd ⟨y / 6, y % 6, hay, hsy, by omega, (step_iff hZ hp hq2 hF hnm hay hsy).mp h⟩ (hmin y (by omega)), fun _ => ⟨by omega, ?_⟩⟩
            exact ihd (y + 1) σ6 (by omega) hSb he6
        exact inner y0 0 σ0 (by omega) hS0 he
    have h := lstM hZ hp hq2
    exact key 7 0 (zh Z') (-1) σ4 hp hSS e91 h0 h.2.2.1 (by omega) hv.symm
  · obtain ⟨-, h1⟩ := h1.resolve_left (fun z => by omega)
    rcases hN with ⟨-, p, hp, -⟩ | ⟨-, rfl⟩
    · exact absurd hp (h1 p)
    · exact RQ.stay hM (MSm.same hS (by decide)) (by decide) (by decide) rfl
