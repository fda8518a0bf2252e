/-! ===== the reference: rows of slots, their numbers, their cost ===== -/
set_option maxRecDepth 100000 in
theorem rX11_takeNow_0  {σ : Mem} {Q : Int → Mem → Prop} (h : GO none mX11_takeNow 2 [some (.inr 73), some (.inl 0)] [] σ Q) : CM mX11_takeNow [.inr 73] σ Q := by
  refine CM_of_GO (by decide +kernel) rfl (Nat.le_of_ble_eq_true rfl) ?_
  show GO none mX11_takeNow 0 [some (.inr 73), none] [] σ Q
  refine g_iconst dX11_takeNow_0 (by decide) ?_
  refine g_istore_n (ls' := [some (.inr 73), some (.inl 0)]) dX11_takeNow_1 rfl (by decide) rfl ?_
  exact h
set_option maxRecDepth 100000 in
theorem rX11_takeNow_2 {x1 : Int}  {σ : Mem} {Q : Int → Mem → Prop} (h : ((σ 73 5) ≤ x1 → Q 0 σ) ∧ (x1 < (σ 73 5) → ((0 ≤ x1) ∧ (((x1 < 5) ∧ (((inR (x1 + 1)) ∧ (GO none mX11_takeNow 2 [some (.inr 73), some (.inl (x1 + 1))] [] (mu σ 88 (x1).toNat (σ 77 (x1).toNat)) Q)))))))) : GO none mX11_takeNow 2 [some (.inr 73), some (.inl x1)] [] σ Q := by
  refine g_iload_n dX11_takeNow_2 rfl rfl ?_
  refine g_aload_n dX11_takeNow_3 rfl rfl ?_
  refine g_getI flX11_85 (by decide) rfl (by decide) rfl dX11_takeNow_4 ?_
  refine g_icmp_ge (tgt := 28) dX11_takeNow_7 (by decide) (fun c1 => ?_) (fun c1 => ?_)
  · have h := h.1 c1
    exact g_return rfl dX11_takeNow_28 h
  · have h := h.2 c1
    refine g_aload_n dX11_takeNow_10 rfl rfl ?_
    refine g_getR (r' := 88) flX11_57 (by decide) rfl (by decide) rfl dX11_takeNow_11 ?_
    refine g_iload_n dX11_takeNow_14 rfl rfl ?_
    refine g_aload_n dX11_takeNow_15 rfl rfl ?_
    refine g_getR (r' := 77) flX11_24 (by decide) rfl (by decide) rfl dX11_takeNow_16 ?_
    refine g_iload_n dX11_takeNow_19 rfl rfl ?_
    obtain ⟨p2, h⟩ := h
    obtain ⟨p3, h⟩ := h
    refine g_iald (by decide) rfl p2 p3 dX11_takeNow_20 ?_
    refine g_iast (by decide) rfl p2 p3 dX11_takeNow_21 ?_
    obtain ⟨p4, h⟩ := h
    refine g_iinc (ls' := [some (.inr 73), some (.inl (x1 + 1))]) dX11_takeNow_22 (by decide) rfl p4 rfl ?_
    refine g_goto (tgt := 2) dX11_takeNow_25 (by decide) ?_
    exact h
set_option maxRecDepth 100000 in
theorem rX11_becomeNow_0  {σ : Mem} {Q : Int → Mem → Prop} (h : GO none mX11_becomeNow 2 [some (.inr 73), some (.inl 0)] [] σ Q) : CM mX11_becomeNow [.inr 73] σ Q := by
  refine CM_of_GO (by decide +kernel) rfl (Nat.le_of_ble_eq_true rfl) ?_
  show GO none mX11_becomeNow 0 [some (.inr 73), none] [] σ Q
  refine g_iconst dX11_becomeNow_0 (by decide) ?_
  refine g_istore_n (ls' := [some (.inr 73), some (.inl 0)]) dX11_becomeNow_1 rfl (by decide) rfl ?_
  exact h
set_option maxRecDepth 100000 in
theorem rX11_becomeNow_2 {x1 : Int}  {σ : Mem} {Q : Int → Mem → Prop} (h : ((σ 73 5) ≤ x1 → Q 0 σ) ∧ (x1 < (σ 73 5) → ((0 ≤ x1) ∧ (((x1 < 5) ∧ (((inR (x1 + 1)) ∧ (GO none mX11_becomeNow 2 [some (.inr 73), some (.inl (x1 + 1))] [] (mu σ 77 (x1).toNat (σ 88 (x1).toNat)) Q)))))))) : GO none mX11_becomeNow 2 [some (.inr 73), some (.inl x1)] [] σ Q := by
  refine g_iload_n dX11_becomeNow_2 rfl rfl ?_
  refine g_aload_n dX11_becomeNow_3 rfl rfl ?_
  refine g_getI flX11_85 (by decide) rfl (by decide) rfl dX11_becomeNow_4 ?_
  refine g_icmp_ge (tgt := 28) dX11_becomeNow_7 (by decide) (fun c1 => ?_) (fun c1 => ?_)
  · have h := h.1 c1
    exact g_return rfl dX11_becomeNow_28 h
  · have h := h.2 c1
    refine g_aload_n dX11_becomeNow_10 rfl rfl ?_
    refine g_getR (r' := 77) flX11_24 (by decide) rfl (by decide) rfl dX11_becomeNow_11 ?_
    refine g_iload_n dX11_becomeNow_14 rfl rfl ?_
    refine g_aload_n dX11_becomeNow_15 rfl rfl ?_
    refine g_getR (r' := 88) flX11_57 (by decide) rfl (by decide) rfl dX11_becomeNow_16 ?_
    refine g_iload_n dX11_becomeNow_19 rfl rfl ?_
    obtain ⟨p2, h⟩ := h
    obtain ⟨p3, h⟩ := h
    refine g_iald (by decide) rfl p2 p3 dX11_becomeNow_20 ?_
    refine g_iast (by decide) rfl p2 p3 dX11_becomeNow_21 ?_
    obtain ⟨p4, h⟩ := h
    refine g_iinc (ls' := [some (.inr 73), some (.inl (x1 + 1))]) dX11_becomeNow_22 (by decide) rfl p4 rfl ?_
    refine g_goto (tgt := 2) dX11_becomeNow_25 (by decide) ?_
    exact h
set_option maxRecDepth 100000 in
theorem rX11_allNumbers_0  {σ : Mem} {Q : Int → Mem → Prop} (h : GO none mX11_allNumbers 4 [some (.inr 73), some (.inl 1), some (.inl 0)] [] σ Q) : CM mX11_allNumbers [.inr 73] σ Q := by
  refine CM_of_GO (by decide +kernel) rfl (Nat.le_of_ble_eq_true rfl) ?_
  show GO none mX11_allNumbers 0 [some (.inr 73), none, none] [] σ Q
  refine g_iconst dX11_allNumbers_0 (by decide) ?_
  refine g_istore_n (ls' := [some (.inr 73), some (.inl 1), none]) dX11_allNumbers_1 rfl (by decide) rfl ?_
  refine g_iconst dX11_allNumbers_2 (by decide) ?_
  refine g_istore_n (ls' := [some (.inr 73), some (.inl 1), some (.inl 0)]) dX11_allNumbers_3 rfl (by decide) rfl ?_
  exact h
set_option maxRecDepth 100000 in
theorem rX11_allNumbers_4 {x1 x2 : Int}  {σ : Mem} {Q : Int → Mem → Prop} (h : ((σ 73 5) ≤ x2 → Q x1 σ) ∧ (x2 < (σ 73 5) → ((inR (x1 * 6)) ∧ (((inR (x2 + 1)) ∧ (GO none mX11_allNumbers 4 [some (.inr 73), some (.inl (x1 * 6)), some (.inl (x2 + 1))] [] σ Q)))))) : GO none mX11_allNumbers 4 [some (.inr 73), some (.inl x1), some (.inl x2)] [] σ Q := by
  refine g_iload_n dX11_allNumbers_4 rfl rfl ?_
  refine g_aload_n dX11_allNumbers_5 rfl rfl ?_
  refine g_getI flX11_85 (by decide) rfl (by decide) rfl dX11_allNumbers_6 ?_
  refine g_icmp_ge (tgt := 23) dX11_allNumbers_9 (by decide) (fun c1 => ?_) (fun c1 => ?_)
  · have h := h.1 c1
    refine g_iload_n dX11_allNumbers_23 rfl rfl ?_
    exact g_ireturn rfl dX11_allNumbers_24 h
  · have h := h.2 c1
    refine g_iload_n dX11_allNumbers_12 rfl rfl ?_
    refine g_bipush dX11_allNumbers_13 (by decide) (by decide) ?_
    obtain ⟨p2, h⟩ := h
    refine g_imul dX11_allNumbers_15 p2 ?_
    refine g_istore_n (ls' := [some (.inr 73), some (.inl (x1 * 6)), some (.inl x2)]) dX11_allNumbers_16 rfl (by decide) rfl ?_
    obtain ⟨p3, h⟩ := h
    refine g_iinc (ls' := [some (.inr 73), some (.inl (x1 * 6)), some (.inl (x2 + 1))]) dX11_allNumbers_17 (by decide) rfl p3 rfl ?_
    refine g_goto (tgt := 4) dX11_allNumbers_20 (by decide) ?_
    exact h
set_option maxRecDepth 100000 in
theorem rX11_numberOf_0  {σ : Mem} {Q : Int → Mem → Prop} (h : GO none mX11_numberOf 4 [some (.inr 73), some (.inl 0), some (.inl 0)] [] σ Q) : CM mX11_numberOf [.inr 73] σ Q := by
  refine CM_of_GO (by decide +kernel) rfl (Nat.le_of_ble_eq_true rfl) ?_
  show GO none mX11_numberOf 0 [some (.inr 73), none, none] [] σ Q
  refine g_iconst dX11_numberOf_0 (by decide) ?_
  refine g_istore_n (ls' := [some (.inr 73), some (.inl 0), none]) dX11_numberOf_1 rfl (by decide) rfl ?_
  refine g_iconst dX11_numberOf_2 (by decide) ?_
  refine g_istore_n (ls' := [some (.inr 73), some (.inl 0), some (.inl 0)]) dX11_numberOf_3 rfl (by decide) rfl ?_
  exact h
set_option maxRecDepth 100000 in
theorem rX11_numberOf_4 {x1 x2 : Int}  {σ : Mem} {Q : Int → Mem → Prop} (h : ((σ 73 5) ≤ x2 → Q x1 σ) ∧ (x2 < (σ 73 5) → ((inR (6 * x1)) ∧ (((0 ≤ x2) ∧ (((x2 < 5) ∧ (((inR ((6 * x1) + (σ 88 (x2).toNat))) ∧ (((inR (x2 + 1)) ∧ (GO none mX11_numberOf 4 [some (.inr 73), some (.inl ((6 * x1) + (σ 88 (x2).toNat))), some (.inl (x2 + 1))] [] σ Q)))))))))))) : GO none mX11_numberOf 4 [some (.inr 73), some (.inl x1), some (.inl x2)] [] σ Q := by
  refine g_iload_n dX11_numberOf_4 rfl rfl ?_
  refine g_aload_n dX11_numberOf_5 rfl rfl ?_
  refine g_getI flX11_85 (by decide) rfl (by decide) rfl dX11_numberOf_6 ?_
  refine g_icmp_ge (tgt := 30) dX11_numberOf_9 (by decide) (fun c1 => ?_) (fun c1 => ?_)
  · have h := h.1 c1
    refine g_iload_n dX11_numberOf_30 rfl rfl ?_
    exact g_ireturn rfl dX11_numberOf_31 h
  · have h := h.2 c1
    refine g_bipush dX11_numberOf_12 (by decide) (by decide) ?_
    refine g_iload_n dX11_numberOf_14 rfl rfl ?_
    obtain ⟨p2, h⟩ := h
    refine g_imul dX11_numberOf_15 p2 ?_
    refine g_aload_n dX11_numberOf_16 rfl rfl ?_
    refine g_getR (r' := 88) flX11_57 (by decide) rfl (by decide) rfl dX11_numberOf_17 ?_
    refine g_iload_n dX11_numberOf_20 rfl rfl ?_
    obtain ⟨p3, h⟩ := h
    obtain ⟨p4, h⟩ := h
    refine g_iald (by decide) rfl p3 p4 dX11_numberOf_21 ?_
    obtain ⟨p5, h⟩ := h
    refine g_iadd dX11_numberOf_22 p5 ?_
    refine g_istore_n (ls' := [some (.inr 73), some (.inl ((6 * x1) + (σ 88 (x2).toNat))), some (.inl x2)]) dX11_numberOf_23 rfl (by decide) rfl ?_
    obtain ⟨p6, h⟩ := h
    refine g_iinc (ls' := [some (.inr 73), some (.inl ((6 * x1) + (σ 88 (x2).toNat))), some (.inl (x2 + 1))]) dX11_numberOf_24 (by decide) rfl p6 rfl ?_
    refine g_goto (tgt := 4) dX11_numberOf_27 (by decide) ?_
    exact h
set_option maxRecDepth 100000 in
theorem rX11_toldOf_0  {σ : Mem} {Q : Int → Mem → Prop} (h : ((inR ((σ 73 5) - 1)) ∧ (GO none mX11_toldOf 9 [some (.inr 73), some (.inl 0), some (.inl ((σ 73 5) - 1))] [] σ Q))) : CM mX11_toldOf [.inr 73] σ Q := by
  refine CM_of_GO (by decide +kernel) rfl (Nat.le_of_ble_eq_true rfl) ?_
  show GO none mX11_toldOf 0 [some (.inr 73), none, none] [] σ Q
  refine g_iconst dX11_toldOf_0 (by decide) ?_
  refine g_istore_n (ls' := [some (.inr 73), some (.inl 0), none]) dX11_toldOf_1 rfl (by decide) rfl ?_
  refine g_aload_n dX11_toldOf_2 rfl rfl ?_
  refine g_getI flX11_85 (by decide) rfl (by decide) rfl dX11_toldOf_3 ?_
  refine g_iconst dX11_toldOf_6 (by decide) ?_
  obtain ⟨p1, h⟩ := h
  refine g_isub dX11_toldOf_7 p1 ?_
  refine g_istore_n (ls' := [some (.inr 73), some (.inl 0), some (.inl ((σ 73 5) - 1))]) dX11_toldOf_8 rfl (by decide) rfl ?_
  exact h
set_option maxRecDepth 100000 in
theorem rX11_toldOf_9 {x1 x2 : Int}  {σ : Mem} {Q : Int → Mem → Prop} (h : (x2 < 0 → Q x1 σ) ∧ (0 ≤ x2 → ((inR (6 * x1)) ∧ (((x2 < 5) ∧ (((inR ((6 * x1) + (σ 88 (x2).toNat))) ∧ (((inR (x2 + (-1))) ∧ (GO none mX11_toldOf 9 [some (.inr 73), some (.inl ((6 * x1) + (σ 88 (x2).toNat))), some (.inl (x2 + (-1)))] [] σ Q)))))))))) : GO none mX11_toldOf 9 [some (.inr 73), some (.inl x1), some (.inl x2)] [] σ Q := by
  refine g_iload_n dX11_toldOf_9 rfl rfl ?_
  refine g_if_lt (tgt := 31) dX11_toldOf_10 (by decide) (fun c1 => ?_) (fun c1 => ?_)
  · have h := h.1 c1
    refine g_iload_n dX11_toldOf_31 rfl rfl ?_
    exact g_ireturn rfl dX11_toldOf_32 h
  · have h := h.2 c1
    refine g_bipush dX11_toldOf_13 (by decide) (by decide) ?_
    refine g_iload_n dX11_toldOf_15 rfl rfl ?_
    obtain ⟨p2, h⟩ := h
    refine g_imul dX11_toldOf_16 p2 ?_
    refine g_aload_n dX11_toldOf_17 rfl rfl ?_
    refine g_getR (r' := 88) flX11_57 (by decide) rfl (by decide) rfl dX11_toldOf_18 ?_
    refine g_iload_n dX11_toldOf_21 rfl rfl ?_
    obtain ⟨p3, h⟩ := h
    refine g_iald (by decide) rfl c1 p3 dX11_toldOf_22 ?_
    obtain ⟨p4, h⟩ := h
    refine g_iadd dX11_toldOf_23 p4 ?_
    refine g_istore_n (ls' := [some (.inr 73), some (.inl ((6 * x1) + (σ 88 (x2).toNat))), some (.inl x2)]) dX11_toldOf_24 rfl (by decide) rfl ?_
    obtain ⟨p5, h⟩ := h
    refine g_iinc (ls' := [some (.inr 73), some (.inl ((6 * x1) + (σ 88 (x2).toNat))), some (.inl (x2 + (-1)))]) dX11_toldOf_25 (by decide) rfl p5 rfl ?_
    refine g_goto (tgt := 9) dX11_toldOf_28 (by decide) ?_
    exact h
set_option maxRecDepth 100000 in
theorem rX11_layRow_0 {x1 : Int}  {σ : Mem} {Q : Int → Mem → Prop} (h : ((inR ((σ 73 5) - 1)) ∧ (GO none mX11_layRow 15 [some (.inr 73), some (.inl x1), some (.inl x1), some (.inl 0), some (.inl 1), some (.inl ((σ 73 5) - 1))] [] σ Q))) : CM mX11_layRow [.inr 73, .inl x1] σ Q := by
  refine CM_of_GO (by decide +kernel) rfl (Nat.le_of_ble_eq_true rfl) ?_
  show GO none mX11_layRow 0 [some (.inr 73), some (.inl x1), none, none, none, none] [] σ Q
  refine g_iload_n dX11_layRow_0 rfl rfl ?_
  refine g_istore_n (ls' := [some (.inr 73), some (.inl x1), some (.inl x1), none, none, none]) dX11_layRow_1 rfl (by decide) rfl ?_
  refine g_iconst dX11_layRow_2 (by decide) ?_
  refine g_istore_n (ls' := [some (.inr 73), some (.inl x1), some (.inl x1), some (.inl 0), none, none]) dX11_layRow_3 rfl (by decide) rfl ?_
  refine g_iconst dX11_layRow_4 (by decide) ?_
  refine g_istore (ls' := [some (.inr 73), some (.inl x1), some (.inl x1), some (.inl 0), some (.inl 1), none]) dX11_layRow_5 (by decide) rfl ?_
  refine g_aload_n dX11_layRow_7 rfl rfl ?_
  refine g_getI flX11_85 (by decide) rfl (by decide) rfl dX11_layRow_8 ?_
  refine g_iconst dX11_layRow_11 (by decide) ?_
  obtain ⟨p1, h⟩ := h
  refine g_isub dX11_layRow_12 p1 ?_
  refine g_istore (ls' := [some (.inr 73), some (.inl x1), some (.inl x1), some (.inl 0), some (.inl 1), some (.inl ((σ 73 5) - 1))]) dX11_layRow_13 (by decide) rfl ?_
  exact h
set_option maxRecDepth 100000 in
theorem rX11_layRow_15 {x1 x2 x3 x4 x5 : Int}  {σ : Mem} {Q : Int → Mem → Prop} (h : (x5 < 0 → ((x4 = 0 ∨ x4 = 1) ∧ (Q x4 σ))) ∧ (0 ≤ x5 → ((x5 < 5) ∧ ((x4 = 0 → ((inR (x5 + (-1))) ∧ (GO none mX11_layRow 15 [some (.inr 73), some (.inl x1), some (.inl (Int.tdiv x2 6)), some (.inl (ior x3 (ishl 1 (Int.tmod x2 6)))), some (.inl 0), some (.inl (x5 + (-1)))] [] (mu σ 88 (x5).toNat (Int.tmod x2 6)) Q))) ∧ (x4 ≠ 0 → ((σ 73 2) ≤ (Int.tmod x2 6) → ((inR (x5 + (-1))) ∧ (GO none mX11_layRow 15 [some (.inr 73), some (.inl x1), some (.inl (Int.tdiv x2 6)), some (.inl (ior x3 (ishl 1 (Int.tmod x2 6)))), some (.inl 0), some (.inl (x5 + (-1)))] [] (mu σ 88 (x5).toNat (Int.tmod x2 6)) Q))) ∧ ((Int.tmod x2 6) < (σ 73 2) → ((iand (ishr x3 (Int.tmod x2 6)) 1) ≠ 0 → ((inR (x5 + (-1))) ∧ (GO none mX11_layRow 15 [some (.inr 73), some (.inl x1), some (.inl (Int.tdiv x2 6)), some (.inl (ior x3 (ishl 1 (Int.tmod x2 6)))), some (.inl 0), some (.inl (x5 + (-1)))] [] (mu σ 88 (x5).toNat (Int.tmod x2 6)) Q))) ∧ ((iand (ishr x3 (Int.tmod x2 6)) 1) = 0 → ((inR (x5 + (-1))) ∧ (GO none mX11_layRow 15 [some (.inr 73), some (.inl x1), some (.inl (Int.tdiv x2 6)), some (.inl (ior x3 (ishl 1 (Int.tmod x2 6)))), some (.inl 1), some (.inl (x5 + (-1)))] [] (mu σ 88 (x5).toNat (Int.tmod x2 6)) Q))))))))) : GO none mX11_layRow 15 [some (.inr 73), some (.inl x1), some (.inl x2), some (.inl x3), some (.inl x4), some (.inl x5)] [] σ Q := by
  refine g_iload dX11_layRow_15 rfl ?_
  refine g_if_lt (tgt := 94) dX11_layRow_17 (by decide) (fun c1 => ?_) (fun c1 => ?_)
  · have h := h.1 c1
    refine g_iload dX11_layRow_94 rfl ?_
    obtain ⟨p2, h⟩ := h
    exact g_zreturn rfl dX11_layRow_96 p2 h
  · have h := h.2 c1
    refine g_aload_n dX11_layRow_20 rfl rfl ?_
    refine g_getR (r' := 88) flX11_57 (by decide) rfl (by decide) rfl dX11_layRow_21 ?_
    refine g_iload dX11_layRow_24 rfl ?_
    refine g_iload_n dX11_layRow_26 rfl rfl ?_
    refine g_bipush dX11_layRow_27 (by decide) (by decide) ?_
    refine g_irem dX11_layRow_29 (by decide) ?_
    obtain ⟨p3, h⟩ := h
    refine g_iast (by decide) rfl c1 p3 dX11_layRow_30 ?_
    refine g_iload_n dX11_layRow_31 rfl rfl ?_
    refine g_bipush dX11_layRow_32 (by decide) (by decide) ?_
    refine g_idiv dX11_layRow_34 (by decide) ?_
    refine g_istore_n (ls' := [some (.inr 73), some (.inl x1), some (.inl (Int.tdiv x2 6)), some (.inl x3), some (.inl x4), some (.inl x5)]) dX11_layRow_35 rfl (by decide) rfl ?_
    refine g_iload dX11_layRow_36 rfl ?_
    refine g_if_eq (tgt := 73) dX11_layRow_38 (by decide) (fun c4 => ?_) (fun c4 => ?_)
    · have h := h.1 c4
      refine g_iconst dX11_layRow_73 (by decide) ?_
      refine g_istore (ls' := [some (.inr 73), some (.inl x1), some (.inl (Int.tdiv x2 6)), some (.inl x3), some (.inl 0), some (.inl x5)]) dX11_layRow_74 (by decide) rfl ?_
      refine g_iload_n dX11_layRow_76 rfl rfl ?_
      refine g_iconst dX11_layRow_77 (by decide) ?_
      refine g_aload_n dX11_layRow_78 rfl rfl ?_
      refine g_getR (r' := 88) flX11_57 (by decide) rfl (by decide) rfl dX11_layRow_79 ?_
      refine g_iload dX11_layRow_82 rfl ?_
      refine g_iald (by decide) rfl c1 p3 dX11_layRow_84 ?_
      refine g_top (w := (Int.tmod x2 6)) (by simp [mu] <;> (intros; omega)) ?_
      refine g_ishl dX11_layRow_85 ?_
      refine g_ior dX11_layRow_86 ?_
      refine g_istore_n (ls' := [some (.inr 73), some (.inl x1), some (.inl (Int.tdiv x2 6)), some (.inl (ior x3 (ishl 1 (Int.tmod x2 6)))), some (.inl 0), some (.inl x5)]) dX11_layRow_87 rfl (by decide) rfl ?_
      obtain ⟨p5, h⟩ := h
      refine g_iinc (ls' := [some (.inr 73), some (.inl x1), some (.inl (Int.tdiv x2 6)), some (.inl (ior x3 (ishl 1 (Int.tmod x2 6)))), some (.inl 0), some (.inl (x5 + (-1)))]) dX11_layRow_88 (by decide) rfl p5 rfl ?_
      refine g_goto (tgt := 15) dX11_layRow_91 (by decide) ?_
      exact h
    · have h := h.2 c4
      refine g_aload_n dX11_layRow_41 rfl rfl ?_
      refine g_getR (r' := 88) flX11_57 (by decide) rfl (by decide) rfl dX11_layRow_42 ?_
      refine g_iload dX11_layRow_45 rfl ?_
      refine g_iald (by decide) rfl c1 p3 dX11_layRow_47 ?_
      refine g_top (w := (Int.tmod x2 6)) (by simp [mu] <;> (intros; omega)) ?_
      refine g_aload_n dX11_layRow_48 rfl rfl ?_
      refine g_getI flX11_82 (by decide) rfl (by decide) rfl dX11_layRow_49 ?_
      refine g_top (w := (σ 73 2)) rfl ?_
      refine g_icmp_ge (tgt := 73) dX11_layRow_52 (by decide) (fun c6 => ?_) (fun c6 => ?_)
      · have h := h.1 c6
        refine g_iconst dX11_layRow_73 (by decide) ?_
        refine g_istore (ls' := [some (.inr 73), some (.inl x1), some (.inl (Int.tdiv x2 6)), some (.inl x3), some (.inl 0), some (.inl x5)]) dX11_layRow_74 (by decide) rfl ?_
        refine g_iload_n dX11_layRow_76 rfl rfl ?_
        refine g_iconst dX11_layRow_77 (by decide) ?_
        refine g_aload_n dX11_layRow_78 rfl rfl ?_
        refine g_getR (r' := 88) flX11_57 (by decide) rfl (by decide) rfl dX11_layRow_79 ?_
        refine g_iload dX11_layRow_82 rfl ?_
        refine g_iald (by decide) rfl c1 p3 dX11_layRow_84 ?_
        refine g_top (w := (Int.tmod x2 6)) (by simp [mu] <;> (intros; omega)) ?_
        refine g_ishl dX11_layRow_85 ?_
        refine g_ior dX11_layRow_86 ?_
        refine g_istore_n (ls' := [some (.inr 73), some (.inl x1), some (.inl (Int.tdiv x2 6)), some (.inl (ior x3 (ishl 1 (Int.tmod x2 6)))), some (.inl 0), some (.inl x5)]) dX11_layRow_87 rfl (by decide) rfl ?_
        obtain ⟨p7, h⟩ := h
        refine g_iinc (ls' := [some (.inr 73), some (.inl x1), some (.inl (Int.tdiv x2 6)), some (.inl (ior x3 (ishl 1 (Int.tmod x2 6)))), some (.inl 0), some (.inl (x5 + (-1)))]) dX11_layRow_88 (by decide) rfl p7 rfl ?_
        refine g_goto (tgt := 15) dX11_layRow_91 (by decide) ?_
        exact h
      · have h := h.2 c6
        refine g_iload_n dX11_layRow_55 rfl rfl ?_
        refine g_aload_n dX11_layRow_56 rfl rfl ?_
        refine g_getR (r' := 88) flX11_57 (by decide) rfl (by decide) rfl dX11_layRow_57 ?_
        refine g_iload dX11_layRow_60 rfl ?_
        refine g_iald (by decide) rfl c1 p3 dX11_layRow_62 ?_
        refine g_top (w := (Int.tmod x2 6)) (by simp [mu] <;> (intros; omega)) ?_
        refine g_ishr dX11_layRow_63 ?_
        refine g_iconst dX11_layRow_64 (by decide) ?_
        refine g_iand dX11_layRow_65 ?_
        refine g_if_ne (tgt := 73) dX11_layRow_66 (by decide) (fun c8 => ?_) (fun c8 => ?_)
        · have h := h.1 c8
          refine g_iconst dX11_layRow_73 (by decide) ?_
          refine g_istore (ls' := [some (.inr 73), some (.inl x1), some (.inl (Int.tdiv x2 6)), some (.inl x3), some (.inl 0), some (.inl x5)]) dX11_layRow_74 (by decide) rfl ?_
          refine g_iload_n dX11_layRow_76 rfl rfl ?_
          refine g_iconst dX11_layRow_77 (by decide) ?_
          refine g_aload_n dX11_layRow_78 rfl rfl ?_
          refine g_getR (r' := 88) flX11_57 (by decide) rfl (by decide) rfl dX11_layRow_79 ?_
          refine g_iload dX11_layRow_82 rfl ?_
          refine g_iald (by decide) rfl c1 p3 dX11_layRow_84 ?_
          refine g_top (w := (Int.tmod x2 6)) (by simp [mu] <;> (intros; omega)) ?_
          refine g_ishl dX11_layRow_85 ?_
          refine g_ior dX11_layRow_86 ?_
          refine g_istore_n (ls' := [some (.inr 73), some (.inl x1), some (.inl (Int.tdiv x2 6)), some (.inl (ior x3 (ishl 1 (Int.tmod x2 6)))), some (.inl 0), some (.inl x5)]) dX11_layRow_87 rfl (by decide) rfl ?_
          obtain ⟨p9, h⟩ := h
          refine g_iinc (ls' := [some (.inr 73), some (.inl x1), some (.inl (Int.tdiv x2 6)), some (.inl (ior x3 (ishl 1 (Int.tmod x2 6)))), some (.inl 0), some (.inl (x5 + (-1)))]) dX11_layRow_88 (by decide) rfl p9 rfl ?_
          refine g_goto (tgt := 15) dX11_layRow_91 (by decide) ?_
          exact h
        · have h := h.2 c8
          refine g_iconst dX11_layRow_69 (by decide) ?_
          refine g_goto (tgt := 74) dX11_layRow_70 (by decide) ?_
          refine g_istore (ls' := [some (.inr 73), some (.inl x1), some (.inl (Int.tdiv x2 6)), some (.inl x3), some (.inl 1), some (.inl x5)]) dX11_layRow_74 (by decide) rfl ?_
          refine g_iload_n dX11_layRow_76 rfl rfl ?_
          refine g_iconst dX11_layRow_77 (by decide) ?_
          refine g_aload_n dX11_layRow_78 rfl rfl ?_
          refine g_getR (r' := 88) flX11_57 (by decide) rfl (by decide) rfl dX11_layRow_79 ?_
          refine g_iload dX11_layRow_82 rfl ?_
          refine g_iald (by decide) rfl c1 p3 dX11_layRow_84 ?_
          refine g_top (w := (Int.tmod x2 6)) (by simp [mu] <;> (intros; omega)) ?_
          refine g_ishl dX11_layRow_85 ?_
          refine g_ior dX11_layRow_86 ?_
          refine g_istore_n (ls' := [some (.inr 73), some (.inl x1), some (.inl (Int.tdiv x2 6)), some (.inl (ior x3 (ishl 1 (Int.tmod x2 6)))), some (.inl 1), some (.inl x5)]) dX11_layRow_87 rfl (by decide) rfl ?_
          obtain ⟨p10, h⟩ := h
          refine g_iinc (ls' := [some (.inr 73), some (.inl x1), some (.inl (Int.tdiv x2 6)), some (.inl (ior x3 (ishl 1 (Int.tmod x2 6)))), some (.inl 1), some (.inl (x5 + (-1)))]) dX11_layRow_88 (by decide) rfl p10 rfl ?_
          refine g_goto (tgt := 15) dX11_layRow_91 (by decide) ?_
          exact h
set_option maxRecDepth 100000 in
theorem rX11_layTold_0 {x1 : Int}  {σ : Mem} {Q : Int → Mem → Prop} (h : (x1 < 0 → Q 0 σ) ∧ (0 ≤ x1 → CM mX11_allNumbers [.inr 73] σ (fun v2 σ3 => (x1 < v2 → GO none mX11_layTold 24 [some (.inr 73), some (.inl x1), some (.inl x1), some (.inl 0), some (.inl 1), some (.inl 0)] [] σ3 Q) ∧ (v2 ≤ x1 → Q 0 σ3)))) : CM mX11_layTold [.inr 73, .inl x1] σ Q := by
  refine CM_of_GO (by decide +kernel) rfl (Nat.le_of_ble_eq_true rfl) ?_
  show GO none mX11_layTold 0 [some (.inr 73), some (.inl x1), none, none, none, none] [] σ Q
  refine g_iload_n dX11_layTold_0 rfl rfl ?_
  refine g_if_lt (tgt := 12) dX11_layTold_1 (by decide) (fun c1 => ?_) (fun c1 => ?_)
  · have h := h.1 c1
    refine g_iconst dX11_layTold_12 (by decide) ?_
    exact g_zreturn rfl dX11_layTold_13 (by decide) h
  · have h := h.2 c1
    refine g_iload_n dX11_layTold_4 rfl rfl ?_
    refine g_aload_n dX11_layTold_5 rfl rfl ?_
    refine g_invVI (as := []) (rest := [.inl x1]) okX11_allNumbers mlX11_116 (by decide) rfl ⟨_, _, rfl⟩ rfl ⟨Nat.le_of_ble_eq_true rfl, Nat.le_of_ble_eq_true rfl⟩ (Nat.le_of_ble_eq_true rfl) rfl dX11_layTold_6 h (Or.inl rfl) (fun v2 σ3 e4 => ?_)
    have h := e4
    refine g_icmp_lt (tgt := 14) dX11_layTold_9 (by decide) (fun c5 => ?_) (fun c5 => ?_)
    · have h := h.1 c5
      refine g_iload_n dX11_layTold_14 rfl rfl ?_
      refine g_istore_n (ls' := [some (.inr 73), some (.inl x1), some (.inl x1), none, none, none]) dX11_layTold_15 rfl (by decide) rfl ?_
      refine g_iconst dX11_layTold_16 (by decide) ?_
      refine g_istore_n (ls' := [some (.inr 73), some (.inl x1), some (.inl x1), some (.inl 0), none, none]) dX11_layTold_17 rfl (by decide) rfl ?_
      refine g_iconst dX11_layTold_18 (by decide) ?_
      refine g_istore (ls' := [some (.inr 73), some (.inl x1), some (.inl x1), some (.inl 0), some (.inl 1), none]) dX11_layTold_19 (by decide) rfl ?_
      refine g_iconst dX11_layTold_21 (by decide) ?_
      refine g_istore (ls' := [some (.inr 73), some (.inl x1), some (.inl x1), some (.inl 0), some (.inl 1), some (.inl 0)]) dX11_layTold_22 (by decide) rfl ?_
      exact h
    · have h := h.2 c5
      refine g_iconst dX11_layTold_12 (by decide) ?_
      exact g_zreturn rfl dX11_layTold_13 (by decide) h
set_option maxRecDepth 100000 in
theorem rX11_layTold_24 {x1 x2 x3 x4 x5 : Int}  {σ : Mem} {Q : Int → Mem → Prop} (h : ((σ 73 5) ≤ x5 → ((x4 = 0 ∨ x4 = 1) ∧ (Q x4 σ))) ∧ (x5 < (σ 73 5) → ((0 ≤ x5) ∧ (((x5 < 5) ∧ ((x4 = 0 → ((inR (x5 + 1)) ∧ (GO none mX11_layTold 24 [some (.inr 73), some (.inl x1), some (.inl (Int.tdiv x2 6)), some (.inl (ior x3 (ishl 1 (Int.tmod x2 6)))), some (.inl 0), some (.inl (x5 + 1))] [] (mu σ 88 (x5).toNat (Int.tmod x2 6)) Q))) ∧ (x4 ≠ 0 → ((σ 73 2) ≤ (Int.tmod x2 6) → ((inR (x5 + 1)) ∧ (GO none mX11_layTold 24 [some (.inr 73), some (.inl x1), some (.inl (Int.tdiv x2 6)), some (.inl (ior x3 (ishl 1 (Int.tmod x2 6)))), some (.inl 0), some (.inl (x5 + 1))] [] (mu σ 88 (x5).toNat (Int.tmod x2 6)) Q))) ∧ ((Int.tmod x2 6) < (σ 73 2) → ((iand (ishr x3 (Int.tmod x2 6)) 1) ≠ 0 → ((inR (x5 + 1)) ∧ (GO none mX11_layTold 24 [some (.inr 73), some (.inl x1), some (.inl (Int.tdiv x2 6)), some (.inl (ior x3 (ishl 1 (Int.tmod x2 6)))), some (.inl 0), some (.inl (x5 + 1))] [] (mu σ 88 (x5).toNat (Int.tmod x2 6)) Q))) ∧ ((iand (ishr x3 (Int.tmod x2 6)) 1) = 0 → ((inR (x5 + 1)) ∧ (GO none mX11_layTold 24 [some (.inr 73), some (.inl x1), some (.inl (Int.tdiv x2 6)), some (.inl (ior x3 (ishl 1 (Int.tmod x2 6)))), some (.inl 1), some (.inl (x5 + 1))] [] (mu σ 88 (x5).toNat (Int.tmod x2 6)) Q))))))))))) : GO none mX11_layTold 24 [some (.inr 73), some (.inl x1), some (.inl x2), some (.inl x3), some (.inl x4), some (.inl x5)] [] σ Q := by
  refine g_iload dX11_layTold_24 rfl ?_
  refine g_aload_n dX11_layTold_26 rfl rfl ?_
  refine g_getI flX11_85 (by decide) rfl (by decide) rfl dX11_layTold_27 ?_
  refine g_icmp_ge (tgt := 107) dX11_layTold_30 (by decide) (fun c1 => ?_) (fun c1 => ?_)
  · have h := h.1 c1
    refine g_iload dX11_layTold_107 rfl ?_
    obtain ⟨p2, h⟩ := h
    exact g_zreturn rfl dX11_layTold_109 p2 h
  · have h := h.2 c1
    refine g_aload_n dX11_layTold_33 rfl rfl ?_
    refine g_getR (r' := 88) flX11_57 (by decide) rfl (by decide) rfl dX11_layTold_34 ?_
    refine g_iload dX11_layTold_37 rfl ?_
    refine g_iload_n dX11_layTold_39 rfl rfl ?_
    refine g_bipush dX11_layTold_40 (by decide) (by decide) ?_
    refine g_irem dX11_layTold_42 (by decide) ?_
    obtain ⟨p3, h⟩ := h
    obtain ⟨p4, h⟩ := h
    refine g_iast (by decide) rfl p3 p4 dX11_layTold_43 ?_
    refine g_iload_n dX11_layTold_44 rfl rfl ?_
    refine g_bipush dX11_layTold_45 (by decide) (by decide) ?_
    refine g_idiv dX11_layTold_47 (by decide) ?_
    refine g_istore_n (ls' := [some (.inr 73), some (.inl x1), some (.inl (Int.tdiv x2 6)), some (.inl x3), some (.inl x4), some (.inl x5)]) dX11_layTold_48 rfl (by decide) rfl ?_
    refine g_iload dX11_layTold_49 rfl ?_
    refine g_if_eq (tgt := 86) dX11_layTold_51 (by decide) (fun c5 => ?_) (fun c5 => ?_)
    · have h := h.1 c5
      refine g_iconst dX11_layTold_86 (by decide) ?_
      refine g_istore (ls' := [some (.inr 73), some (.inl x1), some (.inl (Int.tdiv x2 6)), some (.inl x3), some (.inl 0), some (.inl x5)]) dX11_layTold_87 (by decide) rfl ?_
      refine g_iload_n dX11_layTold_89 rfl rfl ?_
      refine g_iconst dX11_layTold_90 (by decide) ?_
      refine g_aload_n dX11_layTold_91 rfl rfl ?_
      refine g_getR (r' := 88) flX11_57 (by decide) rfl (by decide) rfl dX11_layTold_92 ?_
      refine g_iload dX11_layTold_95 rfl ?_
      refine g_iald (by decide) rfl p3 p4 dX11_layTold_97 ?_
      refine g_top (w := (Int.tmod x2 6)) (by simp [mu] <;> (intros; omega)) ?_
      refine g_ishl dX11_layTold_98 ?_
      refine g_ior dX11_layTold_99 ?_
      refine g_istore_n (ls' := [some (.inr 73), some (.inl x1), some (.inl (Int.tdiv x2 6)), some (.inl (ior x3 (ishl 1 (Int.tmod x2 6)))), some (.inl 0), some (.inl x5)]) dX11_layTold_100 rfl (by decide) rfl ?_
      obtain ⟨p6, h⟩ := h
      refine g_iinc (ls' := [some (.inr 73), some (.inl x1), some (.inl (Int.tdiv x2 6)), some (.inl (ior x3 (ishl 1 (Int.tmod x2 6)))), some (.inl 0), some (.inl (x5 + 1))]) dX11_layTold_101 (by decide) rfl p6 rfl ?_
      refine g_goto (tgt := 24) dX11_layTold_104 (by decide) ?_
      exact h
    · have h := h.2 c5
      refine g_aload_n dX11_layTold_54 rfl rfl ?_
      refine g_getR (r' := 88) flX11_57 (by decide) rfl (by decide) rfl dX11_layTold_55 ?_
      refine g_iload dX11_layTold_58 rfl ?_
      refine g_iald (by decide) rfl p3 p4 dX11_layTold_60 ?_
      refine g_top (w := (Int.tmod x2 6)) (by simp [mu] <;> (intros; omega)) ?_
      refine g_aload_n dX11_layTold_61 rfl rfl ?_
      refine g_getI flX11_82 (by decide) rfl (by decide) rfl dX11_layTold_62 ?_
      refine g_top (w := (σ 73 2)) rfl ?_
      refine g_icmp_ge (tgt := 86) dX11_layTold_65 (by decide) (fun c7 => ?_) (fun c7 => ?_)
      · have h := h.1 c7
        refine g_iconst dX11_layTold_86 (by decide) ?_
        refine g_istore (ls' := [some (.inr 73), some (.inl x1), some (.inl (Int.tdiv x2 6)), some (.inl x3), some (.inl 0), some (.inl x5)]) dX11_layTold_87 (by decide) rfl ?_
        refine g_iload_n dX11_layTold_89 rfl rfl ?_
        refine g_iconst dX11_layTold_90 (by decide) ?_
        refine g_aload_n dX11_layTold_91 rfl rfl ?_
        refine g_getR (r' := 88) flX11_57 (by decide) rfl (by decide) rfl dX11_layTold_92 ?_
        refine g_iload dX11_layTold_95 rfl ?_
        refine g_iald (by decide) rfl p3 p4 dX11_layTold_97 ?_
        refine g_top (w := (Int.tmod x2 6)) (by simp [mu] <;> (intros; omega)) ?_
        refine g_ishl dX11_layTold_98 ?_
        refine g_ior dX11_layTold_99 ?_
        refine g_istore_n (ls' := [some (.inr 73), some (.inl x1), some (.inl (Int.tdiv x2 6)), some (.inl (ior x3 (ishl 1 (Int.tmod x2 6)))), some (.inl 0), some (.inl x5)]) dX11_layTold_100 rfl (by decide) rfl ?_
        obtain ⟨p8, h⟩ := h
        refine g_iinc (ls' := [some (.inr 73), some (.inl x1), some (.inl (Int.tdiv x2 6)), some (.inl (ior x3 (ishl 1 (Int.tmod x2 6)))), some (.inl 0), some (.inl (x5 + 1))]) dX11_layTold_101 (by decide) rfl p8 rfl ?_
        refine g_goto (tgt := 24) dX11_layTold_104 (by decide) ?_
        exact h
      · have h := h.2 c7
        refine g_iload_n dX11_layTold_68 rfl rfl ?_
        refine g_aload_n dX11_layTold_69 rfl rfl ?_
        refine g_getR (r' := 88) flX11_57 (by decide) rfl (by decide) rfl dX11_layTold_70 ?_
        refine g_iload dX11_layTold_73 rfl ?_
        refine g_iald (by decide) rfl p3 p4 dX11_layTold_75 ?_
        refine g_top (w := (Int.tmod x2 6)) (by simp [mu] <;> (intros; omega)) ?_
        refine g_ishr dX11_layTold_76 ?_
        refine g_iconst dX11_layTold_77 (by decide) ?_
        refine g_iand dX11_layTold_78 ?_
        refine g_if_ne (tgt := 86) dX11_layTold_79 (by decide) (fun c9 => ?_) (fun c9 => ?_)
        · have h := h.1 c9
          refine g_iconst dX11_layTold_86 (by decide) ?_
          refine g_istore (ls' := [some (.inr 73), some (.inl x1), some (.inl (Int.tdiv x2 6)), some (.inl x3), some (.inl 0), some (.inl x5)]) dX11_layTold_87 (by decide) rfl ?_
          refine g_iload_n dX11_layTold_89 rfl rfl ?_
          refine g_iconst dX11_layTold_90 (by decide) ?_
          refine g_aload_n dX11_layTold_91 rfl rfl ?_
          refine g_getR (r' := 88) flX11_57 (by decide) rfl (by decide) rfl dX11_layTold_92 ?_
          refine g_iload dX11_layTold_95 rfl ?_
          refine g_iald (by decide) rfl p3 p4 dX11_layTold_97 ?_
          refine g_top (w := (Int.tmod x2 6)) (by simp [mu] <;> (intros; omega)) ?_
          refine g_ishl dX11_layTold_98 ?_
          refine g_ior dX11_layTold_99 ?_
          refine g_istore_n (ls' := [some (.inr 73), some (.inl x1), some (.inl (Int.tdiv x2 6)), some (.inl (ior x3 (ishl 1 (Int.tmod x2 6)))), some (.inl 0), some (.inl x5)]) dX11_layTold_100 rfl (by decide) rfl ?_
          obtain ⟨p10, h⟩ := h
          refine g_iinc (ls' := [some (.inr 73), some (.inl x1), some (.inl (Int.tdiv x2 6)), some (.inl (ior x3 (ishl 1 (Int.tmod x2 6)))), some (.inl 0), some (.inl (x5 + 1))]) dX11_layTold_101 (by decide) rfl p10 rfl ?_
          refine g_goto (tgt := 24) dX11_layTold_104 (by decide) ?_
          exact h
        · have h := h.2 c9
          refine g_iconst dX11_layTold_82 (by decide) ?_
          refine g_goto (tgt := 87) dX11_layTold_83 (by decide) ?_
          refine g_istore (ls' := [some (.inr 73), some (.inl x1), some (.inl (Int.tdiv x2 6)), some (.inl x3), some (.inl 1), some (.inl x5)]) dX11_layTold_87 (by decide) rfl ?_
          refine g_iload_n dX11_layTold_89 rfl rfl ?_
          refine g_iconst dX11_layTold_90 (by decide) ?_
          refine g_aload_n dX11_layTold_91 rfl rfl ?_
          refine g_getR (r' := 88) flX11_57 (by decide) rfl (by decide) rfl dX11_layTold_92 ?_
          refine g_iload dX11_layTold_95 rfl ?_
          refine g_iald (by decide) rfl p3 p4 dX11_layTold_97 ?_
          refine g_top (w := (Int.tmod x2 6)) (by simp [mu] <;> (intros; omega)) ?_
          refine g_ishl dX11_layTold_98 ?_
          refine g_ior dX11_layTold_99 ?_
          refine g_istore_n (ls' := [some (.inr 73), some (.inl x1), some (.inl (Int.tdiv x2 6)), some (.inl (ior x3 (ishl 1 (Int.tmod x2 6)))), some (.inl 1), some (.inl x5)]) dX11_layTold_100 rfl (by decide) rfl ?_
          obtain ⟨p11, h⟩ := h
          refine g_iinc (ls' := [some (.inr 73), some (.inl x1), some (.inl (Int.tdiv x2 6)), some (.inl (ior x3 (ishl 1 (Int.tmod x2 6)))), some (.inl 1), some (.inl (x5 + 1))]) dX11_layTold_101 (by decide) rfl p11 rfl ?_
          refine g_goto (tgt := 24) dX11_layTold_104 (by decide) ?_
          exact h
theorem hldM {Z : Zt} {σ : Mem} (hZ : GZ Z) (hM : MI Z σ) : (zh Z).length = dm (zD Z) ∧ σ 73 5 = dm (zD Z) ∧ dm (zD Z) ≤ 5 := ⟨hZ.len, hM.m, hZ.m5⟩
theorem hld_take {σ : Mem} {a : Nat} {p : List Nat} (h : hld σ a p) {b i : Nat} {σ1 : Mem} (hi : i < p.length) (h2 : hld σ1 b (p.take i)) : hld (mu σ1 b i (σ a i)) b (p.take (i + 1)) := by
  have w := h2.snoc (p[i])
  rw [List.length_take, Nat.min_eq_left (by omega)] at w
  rw [List.take_add_one, List.getElem?_eq_getElem hi, h i hi]
  exact w
theorem c_X11_takeNow {Z : Zt} {σ : Mem} (hZ : GZ Z) (hM : MI Z σ) : CM mX11_takeNow [.inr 73] σ (fun _ σ1 => hld σ1 88 (zh Z) ∧ Same [88] σ σ1) := by
  obtain ⟨hl, hm, h5⟩ := hldM hZ hM
  have key : ∀ (d i : Nat) (σ0 : Mem), i + d = dm (zD Z) → hld σ0 88 ((zh Z).take i) → Same [88] σ σ0 → GO none mX11_takeNow 2 [some (.inr 73), some (.inl (i : Int))] [] σ0 (fun _ σ1 => hld σ1 88 (zh Z) ∧ Same [88] σ σ1) := by
    intro d
    induction d with
    | zero =>
      intro i σ0 hd hh hS
      have e5 : σ0 73 5 = dm (zD Z) := by rw [hS 73 (by decide)]; exact hm
      rw [List.take_of_length_le (by omega)] at hh
      exact rX11_takeNow_2 ⟨fun _ => ⟨hh, hS⟩, fun h => by omega⟩
    | succ d ih =>
      intro i σ0 hd hh hS
      have e5 : σ0 73 5 = dm (zD Z) := by rw [hS 73 (by decide)]; exact hm
      refine rX11_takeNow_2 ⟨fun h => by omega, fun h => ⟨by omega, by omega, by omega, ?_⟩⟩
      rw [Int.toNat_natCast]
      refine ih (i + 1) _ (by omega) ?_ (hS.tr (Same.mu (by decide)))
      have h77 : hld σ0 77 (zh Z) := hM.h.cong (hS 77 (by decide))
      exact hld_take h77 (by omega) hh
  exact rX11_takeNow_0 (key (dm (zD Z)) 0 σ (by omega) hld_nil Same.rf)
theorem c_X11_becomeNow {Z : Zt} {σ : Mem} {p : List Nat} (hZ : GZ Z) (hM : MI Z σ) (hl : p.length = dm (zD Z)) (hp : hld σ 88 p) : CM mX11_becomeNow [.inr 73] σ (fun _ σ1 => hld σ1 77 p ∧ Same [77] σ σ1) := by
  obtain ⟨-, hm, h5⟩ := hldM hZ hM
  have key : ∀ (d i : Nat) (σ0 : Mem), i + d = dm (zD Z) → hld σ0 77 (p.take i) → Same [77] σ σ0 → GO none mX11_becomeNow 2 [some (.inr 73), some (.inl (i : Int))] [] σ0 (fun _ σ1 => hld σ1 77 p ∧ Same [77] σ σ1) := by
    intro d
    induction d with
    | zero =>
      intro i σ0 hd hh hS
      have e5 : σ0 73 5 = dm (zD Z) := by rw [hS 73 (by decide)]; exact hm
      rw [List.take_of_length_le (by omega)] at hh
      exact rX11_becomeNow_2 ⟨fun _ => ⟨hh, hS⟩, fun h => by omega⟩
    | succ d ih =>
      intro i σ0 hd hh hS
      have e5 : σ0 73 5 = dm (zD Z) := by rw [hS 73 (by decide)]; exact hm
      refine rX11_becomeNow_2 ⟨fun h => by omega, fun h => ⟨by omega, by omega, by omega, ?_⟩⟩
      rw [Int.toNat_natCast]
      refine ih (i + 1) _ (by omega) ?_ (hS.tr (Same.mu (by decide)))
      have h88 : hld σ0 88 p := hp.cong (hS 88 (by decide))
      exact hld_take h88 (by omega) hh
  exact rX11_becomeNow_0 (key (dm (zD Z)) 0 σ (by omega) hld_nil Same.rf)
theorem c_X11_allNumbers {Z : Zt} {σ : Mem} (hZ : GZ Z) (hM : MI Z σ) : CM mX11_allNumbers [.inr 73] σ (fun v σ1 => v = ((6 ^ dm (zD Z) : Nat) : Int) ∧ σ1 = σ) := by
  obtain ⟨-, hm, h5⟩ := hldM hZ hM
  have key : ∀ (d i : Nat), i + d = dm (zD Z) → GO none mX11_allNumbers 4 [some (.inr 73), some (.inl ((6 ^ i : Nat) : Int)), some (.inl (i : Int))] [] σ (fun v σ1 => v = ((6 ^ dm (zD Z) : Nat) : Int) ∧ σ1 = σ) := by
    intro d
    induction d with
    | zero =>
      intro i hd
      exact rX11_allNumbers_4 ⟨fun _ => ⟨by rw [show i = dm (zD Z) by omega], rfl⟩, fun h => by omega⟩
    | succ d ih =>
      intro i hd
      have hp := pow6_le (m := i) (by omega)
      have e : (((6 ^ i : Nat) : Int)) * 6 = ((6 ^ (i + 1) : Nat) : Int) := by rw [Nat.pow_succ]; omega
      refine rX11_allNumbers_4 ⟨fun h => by omega, fun h => ⟨?_, by omega, ?_⟩⟩
      · generalize 6 ^ i = S at *
        omega
      · rw [e]
        exact ih (i + 1) (by omega)
  exact rX11_allNumbers_0 (key (dm (zD Z)) 0 (by omega))
theorem c_X11_numberOf {Z : Zt} {σ : Mem} {p : List Nat} (hZ : GZ Z) (hM : MI Z σ) (hl : p.length = dm (zD Z)) (hs : ∀ s ∈ p, s < 6) (hp : hld σ 88 p) : CM mX11_numberOf [.inr 73] σ (fun v σ1 => v = (nm p : Int) ∧ σ1 = σ) := by
  obtain ⟨-, hm, h5⟩ := hldM hZ hM
  have key : ∀ (d i : Nat), i + d = dm (zD Z) → GO none mX11_numberOf 4 [some (.inr 73), some (.inl (nm (p.take i) : Int)), some (.inl (i : Int))] [] σ (fun v σ1 => v = (nm p : Int) ∧ σ1 = σ) := by
    intro d
    induction d with
    | zero =>
      intro i hd
      refine rX11_numberOf_4 ⟨fun _ => ⟨?_, rfl⟩, fun h => by omega⟩
      rw [List.take_of_length_le (by omega)]
    | succ d ih =>
      intro i hd
      have hi : i < p.length := by omega
      have hlt := nm_lt (p.take i) (fun s h => hs s (List.mem_of_mem_take h))
      have hpw := pow6_le (m := (p.take i).length) (by rw [List.length_take]; omega)
      have e := nm_snoc (p.take i) p[i]
      have et : p.take (i + 1) = p.take i ++ [p[i]] := by
        rw [List.take_add_one, List.getElem?_eq_getElem hi]; rfl
      have h6 := hs _ (List.getElem_mem hi)
      refine rX11_numberOf_4 ⟨fun h => by omega, fun h => ?_⟩
      rw [Int.toNat_natCast, hp i hi]
      refine ⟨by omega, by omega, by omega, by omega, by omega, ?_⟩
      have := ih (i + 1) (by omega)
      rw [et, e] at this
      rw [show 6 * (nm (p.take i) : Int) + (p[i] : Int) = ((6 * nm (p.take i) + p[i] : Nat) : Int) by omega]
      exact this
  exact rX11_numberOf_0 (key (dm (zD Z)) 0 (by omega))
theorem c_X11_toldOf {Z : Zt} {σ : Mem} {p : List Nat} (hZ : GZ Z) (hM : MI Z σ) (hl : p.length = dm (zD Z)) (hs : ∀ s ∈ p, s < 6) (hp : hld σ 88 p) : CM mX11_toldOf [.inr 73] σ (fun v σ1 => v = tld p ∧ σ1 = σ) := by
  obtain ⟨-, hm, h5⟩ := hldM hZ hM
  have key : ∀ (i : Nat), i ≤ dm (zD Z) → GO none mX11_toldOf 9 [some (.inr 73), some (.inl (tld (p.drop i))), some (.inl ((i : Int) - 1))] [] σ (fun v σ1 => v = tld p ∧ σ1 = σ) := by
    intro i
    induction i with
    | zero =>
      intro hd
      exact rX11_toldOf_9 ⟨fun _ => ⟨rfl, rfl⟩, fun h => by omega⟩
    | succ i ih =>
      intro hd
      have hi : i < p.length := by omega
      have hlt := tld_lt (p.drop (i + 1)) (fun s h => hs s (List.mem_of_mem_drop h))
      have hnn := tld_nn (p.drop (i + 1))
      have hpw := pow6_le (m := (p.drop (i + 1)).length) (by rw [List.length_drop]; omega)
      have h6 := hs _ (List.getElem_mem hi)
      have e : tld (p.drop i) = (p[i] : Int) + 6 * tld (p.drop (i + 1)) := by rw [List.drop_eq_getElem_cons hi]; rfl
      refine rX11_toldOf_9 ⟨fun h => by omega, fun h => ?_⟩
      rw [show (((i + 1 : Nat) : Int) - 1).toNat = i by omega, hp i hi]
      refine ⟨by omega, by omega, by omega, by omega, ?_⟩
      have := ih (by omega)
      rw [e] at this
      rw [show 6 * tld (p.drop (i + 1)) + (p[i] : Int) = (p[i] : Int) + 6 * tld (p.drop (i + 1)) by omega, show (((i + 1 : Nat) : Int) - 1 + -1) = (i : Int) - 1 by omega]
      exact this
  refine rX11_toldOf_0 ⟨hM.mR hZ, ?_⟩
  have := key (dm (zD Z)) (Nat.le_refl _)
  rw [List.drop_of_length_le (by omega)] at this
  rw [hm]
  exact this
theorem okP_cons {n t : Nat} {q : List Nat} : okP n (t :: q) ↔ t < n ∧ t ∉ q ∧ okP n q := by
  unfold okP
  rw [List.nodup_cons, List.forall_mem_cons]
  constructor
  · rintro ⟨⟨a, b⟩, c, d⟩; exact ⟨a, c, b, d⟩
  · rintro ⟨a, c, b, d⟩; exact ⟨⟨a, b⟩, c, d⟩
theorem okP_snoc {n t : Nat} {q : List Nat} : okP n (q ++ [t]) ↔ okP n q ∧ t < n ∧ t ∉ q := by
  constructor
  · intro h
    have h2 := List.nodup_append.mp h.2
    exact ⟨⟨fun s hs => h.1 s (List.mem_append_left _ hs), h2.1⟩, h.1 t (by simp), fun m => h2.2.2 t m t (by simp) rfl⟩
  · rintro ⟨a, b, c⟩; exact a.snoc b c
theorem c_X11_layRow {Z : Zt} {σ : Mem} {k : Nat} {x1 : Int} (hZ : GZ Z) (hM : MI Z σ) (hk : k < 6 ^ dm (zD Z)) (e1 : x1 = k) : CM mX11_layRow [.inr 73, .inl x1] σ (fun v σ1 => ((v = 1 ∧ okP (dn (zD Z)) (dig (dm (zD Z)) k)) ∨ (v = 0 ∧ ¬ okP (dn (zD Z)) (dig (dm (zD Z)) k))) ∧ hld σ1 88 (dig (dm (zD Z)) k) ∧ Same [88] σ σ1) := by
  subst e1
  obtain ⟨-, hm, h5⟩ := hldM hZ hM
  have hn6 := hZ.n6
  have key : ∀ (i r : Nat) (q : List Nat) (u w : Int) (σ0 : Mem), i + q.length = dm (zD Z) → dig (dm (zD Z)) k = dig i r ++ q → (∀ j (h : j < q.length), σ0 88 (i + j) = q[j]) → bitsOf u q → ((w = 1 ∧ okP (dn (zD Z)) q) ∨ (w = 0 ∧ ¬ okP (dn (zD Z)) q)) → Same [88] σ σ0 → GO none mX11_layRow 15 [some (.inr 73), some (.inl (k : Int)), some (.inl (r : Int)), some (.inl u), some (.inl w), some (.inl ((i : Int) - 1))] [] σ0 (fun v σ1 => ((v = 1 ∧ okP (dn (zD Z)) (dig (dm (zD Z)) k)) ∨ (v = 0 ∧ ¬ okP (dn (zD Z)) (dig (dm (zD Z)) k))) ∧ hld σ1 88 (dig (dm (zD Z)) k) ∧ Same [88] σ σ1) := by
    intro i
    induction i with
    | zero =>
      intro r q u w σ0 hl he hh hu hw hS
      have eq : dig (dm (zD Z)) k = q := he
      rw [eq]
      refine rX11_layRow_15 ⟨fun _ => ⟨by omega, hw, fun j h => ?_, hS⟩, fun h => by omega⟩
      have := hh j h
      rw [Nat.zero_add] at this
      exact this
    | succ i ih =>
      intro r q u w σ0 hl he hh hu hw hS
      have e2 : σ0 73 2 = dn (zD Z) := by rw [hS 73 (by decide)]; exact hM.n
      have ht : r % 6 < 6 := by omega
      have he2 : dig (dm (zD Z)) k = dig i (r / 6) ++ (r % 6 :: q) := by
        rw [he, show dig (i + 1) r = dig i (r / 6) ++ [r % 6] from rfl, List.append_assoc]; rfl
      have hh2 : ∀ j (h : j < (r % 6 :: q).length), mu σ0 88 i ((r % 6 : Nat) : Int) 88 (i + j) = (r % 6 :: q)[j] := fun j h => by
        rw [mu_at]
        cases j with
        | zero => rw [if_pos (by omega)]; rfl
        | succ j =>
          rw [if_neg (by omega)]
          have := hh j (by rw [List.length_cons] at h; omega)
          rw [show i + (j + 1) = i + 1 + j by omega]
          exact this
      have hu2 : bitsOf (ior u (ishl 1 ((r % 6 : Nat) : Int))) (r % 6 :: q) := hu.add ht (fun s => List.mem_cons)
      have hb := hu.one ht
      have ei : (((i + 1 : Nat) : Int) - 1) = (i : Int) := by omega
      have em : Int.tmod (r : Int) 6 = ((r % 6 : Nat) : Int) := by rw [Int.tmod_eq_emod_of_nonneg (by omega)]; omega
      have ed : Int.tdiv (r : Int) 6 = ((r / 6 : Nat) : Int) := by rw [Int.tdiv_eq_ediv_of_nonneg (by omega)]; omega
      have go : ∀ w2 : Int, ((w2 = 1 ∧ okP (dn (zD Z)) (r % 6 :: q)) ∨ (w2 = 0 ∧ ¬ okP (dn (zD Z)) (r % 6 :: q))) → _ := fun w2 hw2 => ih (r / 6) (r % 6 :: q) (ior u (ishl 1 ((r % 6 : Nat) : Int))) w2 (mu σ0 88 i ((r % 6 : Nat) : Int)) (by rw [List.length_cons]; omega) he2 hh2 hu2 hw2 (hS.tr (Same.mu (by decide)))
      rw [ei]
      refine rX11_layRow_15 ⟨fun h => by omega, fun h => ?_⟩
      rw [Int.toNat_natCast, em, ed, e2]
      refine ⟨by omega, fun h0 => ⟨by omega, go 0 (Or.inr ⟨rfl, fun z => ?_⟩)⟩, fun h0 => ⟨fun h1 => ⟨by omega, go 0 (Or.inr ⟨rfl, fun z => ?_⟩)⟩, fun h1 => ⟨fun h2 => ⟨by omega, go 0 (Or.inr ⟨rfl, fun z => ?_⟩)⟩, fun h2 => ⟨by omega, go 1 (Or.inl ⟨rfl, okP_cons.mpr ⟨by omega, hb.mp h2, ?_⟩⟩)⟩⟩⟩⟩
      · have z2 := (okP_cons.mp z).2.2
        rcases hw with ⟨a, -⟩ | ⟨-, b⟩
        · omega
        · exact b z2
      · have := (okP_cons.mp z).1
        omega
      · exact h2 (hb.mpr (okP_cons.mp z).2.1)
      · rcases hw with ⟨-, b⟩ | ⟨a, -⟩
        · exact b
        · exact absurd a h0
  refine rX11_layRow_0 ⟨hM.mR hZ, ?_⟩
  rw [hm]
  exact key (dm (zD Z)) k [] 0 1 σ (by simp) (by simp) (fun j h => by cases h) bitsOf.nil (Or.inl ⟨rfl, ⟨(fun s h => by cases h), List.nodup_nil⟩⟩) Same.rf
/-- the digits of a told number -/
def dgl : Nat → Nat → List Nat
  | 0, _ => []
  | m + 1, x => x % 6 :: dgl m (x / 6)
theorem dgl_tld : ∀ (m : Nat) (q : List Nat) (x : Nat), q.length = m → (∀ s ∈ q, s < 6) → tld q = x → dgl m x = q
  | 0, q, x, h, _, _ => by rw [List.length_eq_zero_iff.mp h]; rfl
  | m + 1, [], x, h, _, _ => by cases h
  | m + 1, s :: q, x, h, hs, e => by
    have h1 := List.forall_mem_cons.mp hs
    have hq := tld_nn q
    obtain ⟨t, ht⟩ := tldN q
    have e2 : (s : Int) + 6 * tld q = x := e
    rw [ht] at e2
    have ih := dgl_tld m q (x / 6) (by rw [List.length_cons] at h; omega) h1.2 (by omega)
    unfold dgl
    rw [ih, show x % 6 = s by omega]
theorem tld_dgl : ∀ (m x : Nat), x < 6 ^ m → tld (dgl m x) = x
  | 0, x, h => by
    have : x < 1 := h
    show (0 : Int) = x
    omega
  | m + 1, x, h => by
    rw [Nat.pow_succ] at h
    have ih := tld_dgl m (x / 6) (by omega)
    show ((x % 6 : Nat) : Int) + 6 * tld (dgl m (x / 6)) = x
    rw [ih]
    omega
theorem dgl_len : ∀ (m x : Nat), (dgl m x).length = m
  | 0, _ => rfl
  | m + 1, x => by unfold dgl; rw [List.length_cons, dgl_len m]
theorem c_X11_layTold {Z : Zt} {σ : Mem} {x : Int} (hZ : GZ Z) (hM : MI Z σ) : CM mX11_layTold [.inr 73, .inl x] σ (fun v σ1 => ((v = 1 ∧ ∃ q, tldIs Z x q ∧ hld σ1 88 q) ∨ (v = 0 ∧ ∀ q, ¬ tldIs Z x q)) ∧ Same [88] σ σ1) := by
  obtain ⟨-, hm, h5⟩ := hldM hZ hM
  have hn6 := hZ.n6
  refine rX11_layTold_0 ⟨fun h => ⟨Or.inr ⟨rfl, fun q hq => ?_⟩, Same.rf⟩, fun h => CM.mono (fun v σ1 hq => ?_) (c_X11_allNumbers hZ hM)⟩
  · have := tld_nn q
    rw [hq.2.2] at this
    omega
  obtain ⟨rfl, rfl⟩ := hq
  refine ⟨fun h2 => ?_, fun h2 => ⟨Or.inr ⟨rfl, fun q hq => ?_⟩, Same.rf⟩⟩
  rotate_left
  · have := tld_lt q (okP.s6 hZ hq.2.1)
    rw [hq.2.2, hq.1] at this
    omega
  obtain ⟨k, rfl⟩ : ∃ k : Nat, x = k := ⟨x.toNat, by omega⟩
  have hk : k < 6 ^ dm (zD Z) := by omega
  have huniq : ∀ q, tldIs Z (k : Int) q → q = dgl (dm (zD Z)) k := fun q hq => (dgl_tld _ q k hq.1 (okP.s6 hZ hq.2.1) hq.2.2).symm
  have key : ∀ (i r : Nat) (q : List Nat) (u w : Int) (σ0 : Mem), i + q.length = dm (zD Z) → dgl (dm (zD Z)) k = q ++ dgl i r → hld σ0 88 q → bitsOf u q → ((w = 1 ∧ okP (dn (zD Z)) q) ∨ (w = 0 ∧ ¬ okP (dn (zD Z)) q)) → Same [88] σ1 σ0 → GO none mX11_layTold 24 [some (.inr 73), some (.inl (k : Int)), some (.inl (r : Int)), some (.inl u), some (.inl w), some (.inl (q.length : Int))] [] σ0 (fun v σ2 => ((v = 1 ∧ ∃ q, tldIs Z k q ∧ hld σ2 88 q) ∨ (v = 0 ∧ ∀ q, ¬ tldIs Z k q)) ∧ Same [88] σ1 σ2) := by
    intro i
    induction i with
    | zero =>
      intro r q u w σ0 hl he hh hu hw hS
      have e5 : σ0 73 5 = dm (zD Z) := by rw [hS 73 (by decide)]; exact hm
      have eq : dgl (dm (zD Z)) k = q := by rw [he]; exact List.append_nil q
      refine rX11_layTold_24 ⟨fun _ => ⟨by omega, ?_, hS⟩, fun h => by omega⟩
      rcases hw with ⟨rfl, b⟩ | ⟨rfl, b⟩
      · exact Or.inl ⟨rfl, q, ⟨by omega, b, by rw [← eq]; exact tld_dgl _ k hk⟩, hh⟩
      · exact Or.inr ⟨rfl, fun q2 hq2 => b (by rw [← eq, ← huniq q2 hq2]; exact hq2.2.1)⟩
    | succ i ih =>
      intro r q u w σ0 hl he hh hu hw hS
      have e2 : σ0 73 2 = dn (zD Z) := by rw [hS 73 (by decide)]; exact hM.n
      have e5 : σ0 73 5 = dm (zD Z) := by rw [hS 73 (by decide)]; exact hm
      have ht : r % 6 < 6 := by omega
      have he2 : dgl (dm (zD Z)) k = (q ++ [r % 6]) ++ dgl i (r / 6) := by
        rw [he]; conv => lhs; unfold dgl
        rw [List.append_assoc]; rfl
      have hu2 : bitsOf (ior u (ishl 1 ((r % 6 : Nat) : Int))) (q ++ [r % 6]) := hu.add ht (fun s => by rw [List.mem_append, List.mem_singleton]; exact or_comm)
      have hb := hu.one ht
      have em : Int.tmod (r : Int) 6 = ((r % 6 : Nat) : Int) := by rw [Int.tmod_eq_emod_of_nonneg (by omega)]; omega
      have ed : Int.tdiv (r : Int) 6 = ((r / 6 : Nat) : Int) := by rw [Int.tdiv_eq_ediv_of_nonneg (by omega)]; omega
      have hll : (q ++ [r % 6]).length = q.length + 1 := by rw [List.length_append, List.length_singleton]
      have go : ∀ w2 : Int, ((w2 = 1 ∧ okP (dn (zD Z)) (q ++ [r % 6])) ∨ (w2 = 0 ∧ ¬ okP (dn (zD Z)) (q ++ [r % 6]))) → GO none mX11_layTold 24 [some (.inr 73), some (.inl (k : Int)), some (.inl ((r / 6 : Nat) : Int)), some (.inl (ior u (ishl 1 ((r % 6 : Nat) : Int)))), some (.inl w2), some (.inl ((q.length : Int) + 1))] [] (mu σ0 88 q.length ((r % 6 : Nat) : Int)) (fun v σ2 => ((v = 1 ∧ ∃ q, tldIs Z k q ∧ hld σ2 88 q) ∨ (v = 0 ∧ ∀ q, ¬ tldIs Z k q)) ∧ Same [88] σ1 σ2) := fun w2 hw2 => by
        have := ih (r / 6) (q ++ [r % 6]) (ior u (ishl 1 ((r % 6 : Nat) : Int))) w2 (mu σ0 88 q.length ((r % 6 : Nat) : Int)) (by omega) he2 (hh.snoc _) hu2 hw2 (hS.tr (Same.mu (by decide)))
        rw [hll] at this
        exact this
      refine rX11_layTold_24 ⟨fun h => by omega, fun h => ?_⟩
      rw [Int.toNat_natCast, em, ed, e2]
      refine ⟨by omega, by omega, fun h0 => ⟨by omega, go 0 (Or.inr ⟨rfl, fun z => ?_⟩)⟩, fun h0 => ⟨fun h1 => ⟨by omega, go 0 (Or.inr ⟨rfl, fun z => ?_⟩)⟩, fun h1 => ⟨fun h2 => ⟨by omega, go 0 (Or.inr ⟨rfl, fun z => ?_⟩)⟩, fun h2 => ⟨by omega, go 1 (Or.inl ⟨rfl, okP_snoc.mpr ⟨?_, by omega, hb.mp h2⟩⟩)⟩⟩⟩⟩
      · have z2 := (okP_snoc.mp z).1
        rcases hw with ⟨a, -⟩ | ⟨-, b⟩
        · omega
        · exact b z2
      · have := (okP_snoc.mp z).2.1
        omega
      · exact h2 (hb.mpr (okP_snoc.mp z).2.2)
      · rcases hw with ⟨-, b⟩ | ⟨a, -⟩
        · exact b
        · exact absurd a h0
  exact key (dm (zD Z)) k [] 0 1 σ1 (by simp) (by simp) hld_nil bitsOf.nil (Or.inl ⟨rfl, ⟨(fun s h => by cases h), List.nodup_nil⟩⟩) Same.rf
set_option maxRecDepth 100000 in
theorem rX11_put_0 {x1 : Int}  {σ : Mem} {Q : Int → Mem → Prop} (h : CM mX11_layTold [.inr 73, .inl x1] σ (fun v1 σ2 => (v1 ≠ 0 → CM mX11_becomeNow [.inr 73] σ2 (fun _ σ6 => Q 1 σ6)) ∧ (v1 = 0 → Q (-2) σ2))) : CM mX11_put [.inr 73, .inl x1] σ Q := by
  refine CM_of_GO (by decide +kernel) rfl (Nat.le_of_ble_eq_true rfl) ?_
  show GO none mX11_put 0 [some (.inr 73), some (.inl x1)] [] σ Q
  refine g_aload_n dX11_put_0 rfl rfl ?_
  refine g_iload_n dX11_put_1 rfl rfl ?_
  refine g_invVI (as := [.inl x1]) (rest := []) okX11_layTold mlX11_120 (by decide) rfl ⟨_, _, rfl⟩ rfl ⟨Nat.le_of_ble_eq_true rfl, Nat.le_of_ble_eq_true rfl⟩ (Nat.le_of_ble_eq_true rfl) rfl dX11_put_2 h (Or.inr rfl) (fun v1 σ2 e3 => ?_)
  have h := e3
  refine g_if_ne (tgt := 11) dX11_put_5 (by decide) (fun c4 => ?_) (fun c4 => ?_)
  · have h := h.1 c4
    refine g_aload_n dX11_put_11 rfl rfl ?_
    refine g_invVV (as := []) (rest := []) okX11_becomeNow mlX11_123 (by decide) rfl ⟨_, _, rfl⟩ rfl ⟨Nat.le_of_ble_eq_true rfl, Nat.le_of_ble_eq_true rfl⟩ (Nat.le_of_ble_eq_true rfl) rfl dX11_put_12 h rfl (fun σ6 e7 => ?_)
    have h := e7
    refine g_iconst dX11_put_15 (by decide) ?_
    exact g_ireturn rfl dX11_put_16 h
  · have h := h.2 c4
    refine g_bipush dX11_put_8 (by decide) (by decide) ?_
    exact g_ireturn rfl dX11_put_10 h
set_option maxRecDepth 100000 in
theorem rX11_places_0  {σ : Mem} {Q : Int → Mem → Prop} (h : CM mX11_takeNow [.inr 73] σ (fun _ σ2 => CM mX11_toldOf [.inr 73] σ2 (fun v4 σ5 => Q v4 σ5))) : CM mX11_places [.inr 73] σ Q := by
  refine CM_of_GO (by decide +kernel) rfl (Nat.le_of_ble_eq_true rfl) ?_
  show GO none mX11_places 0 [some (.inr 73)] [] σ Q
  refine g_aload_n dX11_places_0 rfl rfl ?_
  refine g_invVV (as := []) (rest := []) okX11_takeNow mlX11_126 (by decide) rfl ⟨_, _, rfl⟩ rfl ⟨Nat.le_of_ble_eq_true rfl, Nat.le_of_ble_eq_true rfl⟩ (Nat.le_of_ble_eq_true rfl) rfl dX11_places_1 h rfl (fun σ2 e3 => ?_)
  have h := e3
  refine g_aload_n dX11_places_4 rfl rfl ?_
  refine g_invVI (as := []) (rest := []) okX11_toldOf mlX11_129 (by decide) rfl ⟨_, _, rfl⟩ rfl ⟨Nat.le_of_ble_eq_true rfl, Nat.le_of_ble_eq_true rfl⟩ (Nat.le_of_ble_eq_true rfl) rfl dX11_places_5 h (Or.inl rfl) (fun v4 σ5 e6 => ?_)
  have h := e6
  exact g_ireturn rfl dX11_places_8 h
theorem tldIs_un {Z : Zt} {x : Int} {p q : List Nat} (hZ : GZ Z) (hp : tldIs Z x p) (hq : tldIs Z x q) : p = q := by
  have h0 := tld_nn p
  rw [hp.2.2] at h0
  obtain ⟨k, rfl⟩ : ∃ k : Nat, x = k := ⟨x.toNat, by omega⟩
  rw [← dgl_tld _ p k hp.1 (okP.s6 hZ hp.2.1) hp.2.2, dgl_tld _ q k hq.1 (okP.s6 hZ hq.2.1) hq.2.2]
theorem MI.hand {Z : Zt} {S : List Nat} {σ σ1 : Mem} {p : List Nat} (h : MI Z σ) (hS : MSm S σ σ1) (hn : ∀ a ∈ S, a ∉ [74, 75, 76, 78, 79, 80, 81, 82, 83]) (hp : hld σ1 77 p) : MI (zH Z p) σ1 := by
  have e : ∀ a, a ∈ [74, 75, 76, 78, 79, 80, 81, 82, 83] → σ1 a = σ a := fun a ha => hS.1 a (fun q => by
    rcases List.mem_cons.mp q with q | q
    · rw [q] at ha; exact absurd ha (by decide)
    · exact hn a q ha)
  exact ⟨fun c hc => by rw [e 74 (by decide), e 75 (by decide)]; exact h.kr c hc, by rw [e 76 (by decide)]; exact h.c, by rw [hS.2 2 (by omega)]; exact h.n, by rw [hS.2 4 (by omega)]; exact h.b, by rw [hS.2 5 (by omega)]; exact h.m, by rw [hS.2 9 (by omega)]; exact h.w, hp, by rw [e 78 (by decide)]; exact h.l, by rw [e 79 (by decide)]; exact h.v, by rw [e 80 (by decide)]; exact h.wa, by rw [e 81 (by decide)]; exact h.wb, by rw [e 82 (by decide)]; exact h.we, by rw [e 83 (by decide)]; exact h.wd⟩
theorem c_X11_put {Z Z' : Zt} {σ : Mem} {x v : Int} (hZ : GZ Z) (hM : MI Z σ) (hN : nxPut Z x v Z') : CM mX11_put [.inr 73, .inl x] σ (RQ σ v Z') := by
  refine rX11_put_0 (CM.mono (fun w σ1 hq => ?_) (c_X11_layTold hZ hM))
  obtain ⟨h1, hS⟩ := hq
  have hM1 := hM.same (MSm.same hS (by decide)) (by decide)
  refine ⟨fun hw => ?_, fun hw => ?_⟩
  · obtain ⟨-, q, hq, hh⟩ := h1.resolve_right (fun z => hw z.1)
    refine CM.mono (fun _ σ2 h2 => ?_) (c_X11_becomeNow (p := q) hZ hM1 hq.1 hh)
    obtain ⟨g1, g2⟩ := h2
    rcases hN with ⟨p, hp, rfl, rfl⟩ | ⟨z, -⟩
    · have e := tldIs_un hZ hp hq
      subst e
      exact ⟨rfl, hM1.hand (MSm.same g2 (by decide)) (by decide) g1, (hS.wk (by decide)).tr (g2.wk (by decide))⟩
    · exact absurd hq (z q)
  · obtain ⟨-, h1⟩ := h1.resolve_left (fun z => by omega)
    rcases hN with ⟨p, hp, -⟩ | ⟨z, rfl, rfl⟩
    · exact absurd hp (h1 p)
    · exact ⟨rfl, hM1, hS.wk (by decide)⟩
theorem c_X11_places {Z Z' : Zt} {σ : Mem} {v : Int} (hZ : GZ Z) (hM : MI Z σ) (hN : nxA Z (fun v => v = tld (zh Z)) v Z') : CM mX11_places [.inr 73] σ (RQ σ v Z') := by
  obtain ⟨rfl, rfl⟩ := hN
  refine rX11_places_0 (CM.mono (fun w σ1 hq => ?_) (c_X11_takeNow hZ hM))
  obtain ⟨h1, hS⟩ := hq
  have hM1 := hM.same (MSm.same hS (by decide)) (by decide)
  refine CM.mono (fun w σ2 hq => ?_) (c_X11_toldOf hZ hM1 hZ.len (okP.s6 hZ hZ.ok) h1)
  obtain ⟨rfl, rfl⟩ := hq
  exact ⟨rfl, hM1, hS.wk (by decide)⟩
