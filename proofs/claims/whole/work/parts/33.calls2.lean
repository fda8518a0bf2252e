/-! ===== the class's calls: places, years, moves, plans ===== -/
theorem isSeats.ne {k : Nat} (h : isSeats k) : True := trivial
set_option maxRecDepth 100000 in
theorem rX10_put_0 {x1 : Int}  {σ : Mem} {Q : Int → Mem → Prop} (h : CM mX8_read [.inr 70, .inl x1, .inl (σ 14 6), .inl (σ 1 7)] σ (fun v7 σ8 => (v7 ≠ 0 → CM mX8_copy [.inr 67, .inr 70] σ8 (fun _ σ12 => Q 1 σ12)) ∧ (v7 = 0 → Q (-2) σ8))) : CM mX10_put [.inr 0, .inl x1] σ Q := by
  refine CM_of_GO (by decide +kernel) rfl (Nat.le_of_ble_eq_true rfl) ?_
  show GO none mX10_put 0 [some (.inr 0), some (.inl x1)] [] σ Q
  refine g_aload_n dX10_put_0 rfl rfl ?_
  refine g_getR (r' := 70) flX10_78 (by decide) rfl (by decide) rfl dX10_put_1 ?_
  refine g_iload_n dX10_put_4 rfl rfl ?_
  refine g_aload_n dX10_put_5 rfl rfl ?_
  refine g_getR (r' := 14) flX10_19 (by decide) rfl (by decide) rfl dX10_put_6 ?_
  refine g_invVI (as := []) (rest := [.inl x1, .inr 70]) okX9_shops mlX10_116 (by decide) rfl ⟨_, _, rfl⟩ rfl ⟨Nat.le_of_ble_eq_true rfl, Nat.le_of_ble_eq_true rfl⟩ (Nat.le_of_ble_eq_true rfl) rfl dX10_put_9 (c_X9_shops) (Or.inl rfl) (fun v1 σ2 e3 => ?_)
  obtain ⟨e3a, e3b⟩ := e3; subst v1; subst σ2
  refine g_aload_n dX10_put_12 rfl rfl ?_
  refine g_getR (r' := 1) flX10_12 (by decide) rfl (by decide) rfl dX10_put_13 ?_
  refine g_invVI (as := []) (rest := [.inl (σ 14 6), .inl x1, .inr 70]) okX2_slots mlX10_96 (by decide) rfl ⟨_, _, rfl⟩ rfl ⟨Nat.le_of_ble_eq_true rfl, Nat.le_of_ble_eq_true rfl⟩ (Nat.le_of_ble_eq_true rfl) rfl dX10_put_16 (c_X2_slots) (Or.inl rfl) (fun v4 σ5 e6 => ?_)
  obtain ⟨e6a, e6b⟩ := e6; subst v4; subst σ5
  refine g_invVI (as := [.inl x1, .inl (σ 14 6), .inl (σ 1 7)]) (rest := []) okX8_read mlX10_152 (by decide) rfl ⟨_, _, rfl⟩ rfl ⟨Nat.le_of_ble_eq_true rfl, Nat.le_of_ble_eq_true rfl⟩ (Nat.le_of_ble_eq_true rfl) rfl dX10_put_19 h (Or.inr rfl) (fun v7 σ8 e9 => ?_)
  have h := e9
  refine g_if_ne (tgt := 28) dX10_put_22 (by decide) (fun c10 => ?_) (fun c10 => ?_)
  · have h := h.1 c10
    refine g_aload_n dX10_put_28 rfl rfl ?_
    refine g_getR (r' := 67) flX10_74 (by decide) rfl (by decide) rfl dX10_put_29 ?_
    refine g_aload_n dX10_put_32 rfl rfl ?_
    refine g_getR (r' := 70) flX10_78 (by decide) rfl (by decide) rfl dX10_put_33 ?_
    refine g_invVV (as := [.inr 70]) (rest := []) okX8_copy mlX10_156 (by decide) rfl ⟨_, _, rfl⟩ rfl ⟨Nat.le_of_ble_eq_true rfl, Nat.le_of_ble_eq_true rfl⟩ (Nat.le_of_ble_eq_true rfl) rfl dX10_put_36 h rfl (fun σ12 e13 => ?_)
    have h := e13
    refine g_iconst dX10_put_39 (by decide) ?_
    exact g_ireturn rfl dX10_put_40 h
  · have h := h.2 c10
    refine g_bipush dX10_put_25 (by decide) (by decide) ?_
    exact g_ireturn rfl dX10_put_27 h
set_option maxRecDepth 100000 in
theorem rX10_places_0  {σ : Mem} {Q : Int → Mem → Prop} (h : CM mX8_told [.inr 67] σ (fun v1 σ2 => Q v1 σ2)) : CM mX10_places [.inr 0] σ Q := by
  refine CM_of_GO (by decide +kernel) rfl (Nat.le_of_ble_eq_true rfl) ?_
  show GO none mX10_places 0 [some (.inr 0)] [] σ Q
  refine g_aload_n dX10_places_0 rfl rfl ?_
  refine g_getR (r' := 67) flX10_74 (by decide) rfl (by decide) rfl dX10_places_1 ?_
  refine g_invVI (as := []) (rest := []) okX8_told mlX10_160 (by decide) rfl ⟨_, _, rfl⟩ rfl ⟨Nat.le_of_ble_eq_true rfl, Nat.le_of_ble_eq_true rfl⟩ (Nat.le_of_ble_eq_true rfl) rfl dX10_places_4 h (Or.inl rfl) (fun v1 σ2 e3 => ?_)
  have h := e3
  exact g_ireturn rfl dX10_places_7 h
set_option maxRecDepth 100000 in
theorem rX10_cost_0 {x1 : Int}  {σ : Mem} {Q : Int → Mem → Prop} (h : (0 ≤ x1 ∧ x1 < 4 → CM mX3_costOf [.inr 27, .inl x1, .inr 67] σ (fun v5 σ6 => Q v5 σ6)) ∧ (¬ (0 ≤ x1 ∧ x1 < 4) → Q (-2) σ)) : CM mX10_cost [.inr 0, .inl x1] σ Q := by
  refine CM_of_GO (by decide +kernel) rfl (Nat.le_of_ble_eq_true rfl) ?_
  show GO none mX10_cost 0 [some (.inr 0), some (.inl x1)] [] σ Q
  refine g_iload_n dX10_cost_0 rfl rfl ?_
  refine g_invSI (as := [.inl x1]) (rest := []) okX10_isYear rfl mlX10_125 rfl ⟨Nat.le_of_ble_eq_true rfl, Nat.le_of_ble_eq_true rfl⟩ (Nat.le_of_ble_eq_true rfl) rfl dX10_cost_1 (c_X10_isYear) (Or.inr rfl) (fun v1 σ2 e3 => ?_)
  obtain ⟨e3a, e3b⟩ := e3; subst v1; subst σ2
  refine g_if_ne (tgt := 10) dX10_cost_4 (by decide) (fun c4 => ?_) (fun c4 => ?_)
  · have h := h.1 (ite_yes c4)
    refine g_aload_n dX10_cost_10 rfl rfl ?_
    refine g_getR (r' := 27) flX10_28 (by decide) rfl (by decide) rfl dX10_cost_11 ?_
    refine g_iload_n dX10_cost_14 rfl rfl ?_
    refine g_aload_n dX10_cost_15 rfl rfl ?_
    refine g_getR (r' := 67) flX10_74 (by decide) rfl (by decide) rfl dX10_cost_16 ?_
    refine g_invVI (as := [.inl x1, .inr 67]) (rest := []) okX3_costOf mlX10_163 (by decide) rfl ⟨_, _, rfl⟩ rfl ⟨Nat.le_of_ble_eq_true rfl, Nat.le_of_ble_eq_true rfl⟩ (Nat.le_of_ble_eq_true rfl) rfl dX10_cost_19 h (Or.inl rfl) (fun v5 σ6 e7 => ?_)
    have h := e7
    exact g_ireturn rfl dX10_cost_22 h
  · have h := h.2 (ite_no c4)
    refine g_bipush dX10_cost_7 (by decide) (by decide) ?_
    exact g_ireturn rfl dX10_cost_9 h
set_option maxRecDepth 100000 in
theorem rX10_best_0 {x1 : Int}  {σ : Mem} {Q : Int → Mem → Prop} (h : (0 ≤ x1 ∧ x1 < 4 → CM mX0_search [.inr 33, .inl x1] σ (fun _ σ6 => Q (σ6 33 5) σ6)) ∧ (¬ (0 ≤ x1 ∧ x1 < 4) → Q (-2) σ)) : CM mX10_best [.inr 0, .inl x1] σ Q := by
  refine CM_of_GO (by decide +kernel) rfl (Nat.le_of_ble_eq_true rfl) ?_
  show GO none mX10_best 0 [some (.inr 0), some (.inl x1)] [] σ Q
  refine g_iload_n dX10_best_0 rfl rfl ?_
  refine g_invSI (as := [.inl x1]) (rest := []) okX10_isYear rfl mlX10_125 rfl ⟨Nat.le_of_ble_eq_true rfl, Nat.le_of_ble_eq_true rfl⟩ (Nat.le_of_ble_eq_true rfl) rfl dX10_best_1 (c_X10_isYear) (Or.inr rfl) (fun v1 σ2 e3 => ?_)
  obtain ⟨e3a, e3b⟩ := e3; subst v1; subst σ2
  refine g_if_ne (tgt := 10) dX10_best_4 (by decide) (fun c4 => ?_) (fun c4 => ?_)
  · have h := h.1 (ite_yes c4)
    refine g_aload_n dX10_best_10 rfl rfl ?_
    refine g_getR (r' := 33) flX10_44 (by decide) rfl (by decide) rfl dX10_best_11 ?_
    refine g_iload_n dX10_best_14 rfl rfl ?_
    refine g_invVV (as := [.inl x1]) (rest := []) okX0_search mlX10_167 (by decide) rfl ⟨_, _, rfl⟩ rfl ⟨Nat.le_of_ble_eq_true rfl, Nat.le_of_ble_eq_true rfl⟩ (Nat.le_of_ble_eq_true rfl) rfl dX10_best_15 h rfl (fun σ6 e7 => ?_)
    have h := e7
    refine g_aload_n dX10_best_18 rfl rfl ?_
    refine g_getR (r' := 33) flX10_44 (by decide) rfl (by decide) rfl dX10_best_19 ?_
    refine g_invVI (as := []) (rest := []) okX0_least mlX10_170 (by decide) rfl ⟨_, _, rfl⟩ rfl ⟨Nat.le_of_ble_eq_true rfl, Nat.le_of_ble_eq_true rfl⟩ (Nat.le_of_ble_eq_true rfl) rfl dX10_best_22 (c_X0_least) (Or.inl rfl) (fun v8 σ9 e10 => ?_)
    obtain ⟨e10a, e10b⟩ := e10; subst v8; subst σ9
    exact g_ireturn rfl dX10_best_25 h
  · have h := h.2 (ite_no c4)
    refine g_bipush dX10_best_7 (by decide) (by decide) ?_
    exact g_ireturn rfl dX10_best_9 h
set_option maxRecDepth 100000 in
theorem rX10_many_0 {x1 : Int}  {σ : Mem} {Q : Int → Mem → Prop} (h : (0 ≤ x1 ∧ x1 < 4 → CM mX0_search [.inr 33, .inl x1] σ (fun _ σ6 => Q (σ6 33 6) σ6)) ∧ (¬ (0 ≤ x1 ∧ x1 < 4) → Q (-2) σ)) : CM mX10_many [.inr 0, .inl x1] σ Q := by
  refine CM_of_GO (by decide +kernel) rfl (Nat.le_of_ble_eq_true rfl) ?_
  show GO none mX10_many 0 [some (.inr 0), some (.inl x1)] [] σ Q
  refine g_iload_n dX10_many_0 rfl rfl ?_
  refine g_invSI (as := [.inl x1]) (rest := []) okX10_isYear rfl mlX10_125 rfl ⟨Nat.le_of_ble_eq_true rfl, Nat.le_of_ble_eq_true rfl⟩ (Nat.le_of_ble_eq_true rfl) rfl dX10_many_1 (c_X10_isYear) (Or.inr rfl) (fun v1 σ2 e3 => ?_)
  obtain ⟨e3a, e3b⟩ := e3; subst v1; subst σ2
  refine g_if_ne (tgt := 10) dX10_many_4 (by decide) (fun c4 => ?_) (fun c4 => ?_)
  · have h := h.1 (ite_yes c4)
    refine g_aload_n dX10_many_10 rfl rfl ?_
    refine g_getR (r' := 33) flX10_44 (by decide) rfl (by decide) rfl dX10_many_11 ?_
    refine g_iload_n dX10_many_14 rfl rfl ?_
    refine g_invVV (as := [.inl x1]) (rest := []) okX0_search mlX10_167 (by decide) rfl ⟨_, _, rfl⟩ rfl ⟨Nat.le_of_ble_eq_true rfl, Nat.le_of_ble_eq_true rfl⟩ (Nat.le_of_ble_eq_true rfl) rfl dX10_many_15 h rfl (fun σ6 e7 => ?_)
    have h := e7
    refine g_aload_n dX10_many_18 rfl rfl ?_
    refine g_getR (r' := 33) flX10_44 (by decide) rfl (by decide) rfl dX10_many_19 ?_
    refine g_invVI (as := []) (rest := []) okX0_howMany mlX10_173 (by decide) rfl ⟨_, _, rfl⟩ rfl ⟨Nat.le_of_ble_eq_true rfl, Nat.le_of_ble_eq_true rfl⟩ (Nat.le_of_ble_eq_true rfl) rfl dX10_many_22 (c_X0_howMany) (Or.inl rfl) (fun v8 σ9 e10 => ?_)
    obtain ⟨e10a, e10b⟩ := e10; subst v8; subst σ9
    exact g_ireturn rfl dX10_many_25 h
  · have h := h.2 (ite_no c4)
    refine g_bipush dX10_many_7 (by decide) (by decide) ?_
    exact g_ireturn rfl dX10_many_9 h
set_option maxRecDepth 100000 in
theorem rX10_take_0 {x1 : Int}  {σ : Mem} {Q : Int → Mem → Prop} (h : (0 ≤ x1 ∧ x1 < 4 → CM mX0_search [.inr 33, .inl x1] σ (fun _ σ6 => ((σ6 33 5) ≠ (-1) → CM mX8_copy [.inr 67, .inr 37] σ6 (fun _ σ16 => Q (σ16 33 5) σ16)) ∧ ((σ6 33 5) = (-1) → Q (-3) σ6))) ∧ (¬ (0 ≤ x1 ∧ x1 < 4) → Q (-2) σ)) : CM mX10_take [.inr 0, .inl x1] σ Q := by
  refine CM_of_GO (by decide +kernel) rfl (Nat.le_of_ble_eq_true rfl) ?_
  show GO none mX10_take 0 [some (.inr 0), some (.inl x1)] [] σ Q
  refine g_iload_n dX10_take_0 rfl rfl ?_
  refine g_invSI (as := [.inl x1]) (rest := []) okX10_isYear rfl mlX10_125 rfl ⟨Nat.le_of_ble_eq_true rfl, Nat.le_of_ble_eq_true rfl⟩ (Nat.le_of_ble_eq_true rfl) rfl dX10_take_1 (c_X10_isYear) (Or.inr rfl) (fun v1 σ2 e3 => ?_)
  obtain ⟨e3a, e3b⟩ := e3; subst v1; subst σ2
  refine g_if_ne (tgt := 10) dX10_take_4 (by decide) (fun c4 => ?_) (fun c4 => ?_)
  · have h := h.1 (ite_yes c4)
    refine g_aload_n dX10_take_10 rfl rfl ?_
    refine g_getR (r' := 33) flX10_44 (by decide) rfl (by decide) rfl dX10_take_11 ?_
    refine g_iload_n dX10_take_14 rfl rfl ?_
    refine g_invVV (as := [.inl x1]) (rest := []) okX0_search mlX10_167 (by decide) rfl ⟨_, _, rfl⟩ rfl ⟨Nat.le_of_ble_eq_true rfl, Nat.le_of_ble_eq_true rfl⟩ (Nat.le_of_ble_eq_true rfl) rfl dX10_take_15 h rfl (fun σ6 e7 => ?_)
    have h := e7
    refine g_aload_n dX10_take_18 rfl rfl ?_
    refine g_getR (r' := 33) flX10_44 (by decide) rfl (by decide) rfl dX10_take_19 ?_
    refine g_invVI (as := []) (rest := []) okX0_least mlX10_170 (by decide) rfl ⟨_, _, rfl⟩ rfl ⟨Nat.le_of_ble_eq_true rfl, Nat.le_of_ble_eq_true rfl⟩ (Nat.le_of_ble_eq_true rfl) rfl dX10_take_22 (c_X0_least) (Or.inl rfl) (fun v8 σ9 e10 => ?_)
    obtain ⟨e10a, e10b⟩ := e10; subst v8; subst σ9
    refine g_iconst dX10_take_25 (by decide) ?_
    refine g_icmp_ne (tgt := 32) dX10_take_26 (by decide) (fun c11 => ?_) (fun c11 => ?_)
    · have h := h.1 c11
      refine g_aload_n dX10_take_32 rfl rfl ?_
      refine g_getR (r' := 67) flX10_74 (by decide) rfl (by decide) rfl dX10_take_33 ?_
      refine g_aload_n dX10_take_36 rfl rfl ?_
      refine g_getR (r' := 33) flX10_44 (by decide) rfl (by decide) rfl dX10_take_37 ?_
      refine g_invVR (as := []) (rest := [.inr 67]) okX0_first mlX10_176 (by decide) rfl ⟨_, _, rfl⟩ rfl ⟨Nat.le_of_ble_eq_true rfl, Nat.le_of_ble_eq_true rfl⟩ (Nat.le_of_ble_eq_true rfl) rfl dX10_take_40 (c_X0_first) rfl (fun v12 σ13 e14 => ?_)
      obtain ⟨e14, e14b⟩ := e14; subst σ13
      obtain rfl : v12 = 37 := by omega
      refine g_invVV (as := [.inr 37]) (rest := []) okX8_copy mlX10_156 (by decide) rfl ⟨_, _, rfl⟩ rfl ⟨Nat.le_of_ble_eq_true rfl, Nat.le_of_ble_eq_true rfl⟩ (Nat.le_of_ble_eq_true rfl) rfl dX10_take_43 h rfl (fun σ16 e17 => ?_)
      have h := e17
      refine g_aload_n dX10_take_46 rfl rfl ?_
      refine g_getR (r' := 33) flX10_44 (by decide) rfl (by decide) rfl dX10_take_47 ?_
      refine g_invVI (as := []) (rest := []) okX0_least mlX10_170 (by decide) rfl ⟨_, _, rfl⟩ rfl ⟨Nat.le_of_ble_eq_true rfl, Nat.le_of_ble_eq_true rfl⟩ (Nat.le_of_ble_eq_true rfl) rfl dX10_take_50 (c_X0_least) (Or.inl rfl) (fun v18 σ19 e20 => ?_)
      obtain ⟨e20a, e20b⟩ := e20; subst v18; subst σ19
      exact g_ireturn rfl dX10_take_53 h
    · have h := h.2 c11
      refine g_bipush dX10_take_29 (by decide) (by decide) ?_
      exact g_ireturn rfl dX10_take_31 h
  · have h := h.2 (ite_no c4)
    refine g_bipush dX10_take_7 (by decide) (by decide) ?_
    exact g_ireturn rfl dX10_take_9 h
set_option maxRecDepth 100000 in
theorem rX10_floor_0 {x1 : Int}  {σ : Mem} {Q : Int → Mem → Prop} (h : (0 ≤ x1 ∧ x1 < 4 → CM mX4_of [.inr 28, .inl x1] σ (fun v5 σ6 => Q v5 σ6)) ∧ (¬ (0 ≤ x1 ∧ x1 < 4) → Q (-2) σ)) : CM mX10_floor [.inr 0, .inl x1] σ Q := by
  refine CM_of_GO (by decide +kernel) rfl (Nat.le_of_ble_eq_true rfl) ?_
  show GO none mX10_floor 0 [some (.inr 0), some (.inl x1)] [] σ Q
  refine g_iload_n dX10_floor_0 rfl rfl ?_
  refine g_invSI (as := [.inl x1]) (rest := []) okX10_isYear rfl mlX10_125 rfl ⟨Nat.le_of_ble_eq_true rfl, Nat.le_of_ble_eq_true rfl⟩ (Nat.le_of_ble_eq_true rfl) rfl dX10_floor_1 (c_X10_isYear) (Or.inr rfl) (fun v1 σ2 e3 => ?_)
  obtain ⟨e3a, e3b⟩ := e3; subst v1; subst σ2
  refine g_if_ne (tgt := 10) dX10_floor_4 (by decide) (fun c4 => ?_) (fun c4 => ?_)
  · have h := h.1 (ite_yes c4)
    refine g_aload_n dX10_floor_10 rfl rfl ?_
    refine g_getR (r' := 28) flX10_35 (by decide) rfl (by decide) rfl dX10_floor_11 ?_
    refine g_iload_n dX10_floor_14 rfl rfl ?_
    refine g_invVI (as := [.inl x1]) (rest := []) okX4_of mlX10_180 (by decide) rfl ⟨_, _, rfl⟩ rfl ⟨Nat.le_of_ble_eq_true rfl, Nat.le_of_ble_eq_true rfl⟩ (Nat.le_of_ble_eq_true rfl) rfl dX10_floor_15 h (Or.inl rfl) (fun v5 σ6 e7 => ?_)
    have h := e7
    exact g_ireturn rfl dX10_floor_18 h
  · have h := h.2 (ite_no c4)
    refine g_bipush dX10_floor_7 (by decide) (by decide) ?_
    exact g_ireturn rfl dX10_floor_9 h
set_option maxRecDepth 100000 in
theorem rX10_settled_0 {x1 : Int}  {σ : Mem} {Q : Int → Mem → Prop} (h : (0 ≤ x1 ∧ x1 < 4 → CM mX3_costOf [.inr 27, .inl x1, .inr 67] σ (fun v5 σ6 => (v5 = (-1) → Q 0 σ6) ∧ (v5 ≠ (-1) → CM mX1_search [.inr 40, .inl x1, .inr 67] σ6 (fun v9 σ10 => (v9 ≠ 0 → Q 0 σ10) ∧ (v9 = 0 → Q 1 σ10))))) ∧ (¬ (0 ≤ x1 ∧ x1 < 4) → Q (-2) σ)) : CM mX10_settled [.inr 0, .inl x1] σ Q := by
  refine CM_of_GO (by decide +kernel) rfl (Nat.le_of_ble_eq_true rfl) ?_
  show GO none mX10_settled 0 [some (.inr 0), some (.inl x1), none] [] σ Q
  refine g_iload_n dX10_settled_0 rfl rfl ?_
  refine g_invSI (as := [.inl x1]) (rest := []) okX10_isYear rfl mlX10_125 rfl ⟨Nat.le_of_ble_eq_true rfl, Nat.le_of_ble_eq_true rfl⟩ (Nat.le_of_ble_eq_true rfl) rfl dX10_settled_1 (c_X10_isYear) (Or.inr rfl) (fun v1 σ2 e3 => ?_)
  obtain ⟨e3a, e3b⟩ := e3; subst v1; subst σ2
  refine g_if_ne (tgt := 10) dX10_settled_4 (by decide) (fun c4 => ?_) (fun c4 => ?_)
  · have h := h.1 (ite_yes c4)
    refine g_aload_n dX10_settled_10 rfl rfl ?_
    refine g_getR (r' := 27) flX10_28 (by decide) rfl (by decide) rfl dX10_settled_11 ?_
    refine g_iload_n dX10_settled_14 rfl rfl ?_
    refine g_aload_n dX10_settled_15 rfl rfl ?_
    refine g_getR (r' := 67) flX10_74 (by decide) rfl (by decide) rfl dX10_settled_16 ?_
    refine g_invVI (as := [.inl x1, .inr 67]) (rest := []) okX3_costOf mlX10_163 (by decide) rfl ⟨_, _, rfl⟩ rfl ⟨Nat.le_of_ble_eq_true rfl, Nat.le_of_ble_eq_true rfl⟩ (Nat.le_of_ble_eq_true rfl) rfl dX10_settled_19 h (Or.inl rfl) (fun v5 σ6 e7 => ?_)
    have h := e7
    refine g_iconst dX10_settled_22 (by decide) ?_
    refine g_icmp_eq (tgt := 30) dX10_settled_23 (by decide) (fun c8 => ?_) (fun c8 => ?_)
    · have h := h.1 c8
      refine g_iconst dX10_settled_30 (by decide) ?_
      refine g_istore_n (ls' := [some (.inr 0), some (.inl x1), some (.inl 0)]) dX10_settled_31 rfl (by decide) rfl ?_
      refine g_iload_n dX10_settled_32 rfl rfl ?_
      refine g_if_eq (tgt := 55) dX10_settled_33 (by decide) (fun _ => ?_) (fun c9 => absurd c9 (by decide))
      refine g_iconst dX10_settled_55 (by decide) ?_
      exact g_ireturn rfl dX10_settled_56 h
    · have h := h.2 c8
      refine g_iconst dX10_settled_26 (by decide) ?_
      refine g_goto (tgt := 31) dX10_settled_27 (by decide) ?_
      refine g_istore_n (ls' := [some (.inr 0), some (.inl x1), some (.inl 1)]) dX10_settled_31 rfl (by decide) rfl ?_
      refine g_iload_n dX10_settled_32 rfl rfl ?_
      refine g_if_eq (tgt := 55) dX10_settled_33 (by decide) (fun c9 => absurd c9 (by decide)) (fun _ => ?_)
      refine g_aload_n dX10_settled_36 rfl rfl ?_
      refine g_getR (r' := 40) flX10_53 (by decide) rfl (by decide) rfl dX10_settled_37 ?_
      refine g_iload_n dX10_settled_40 rfl rfl ?_
      refine g_aload_n dX10_settled_41 rfl rfl ?_
      refine g_getR (r' := 67) flX10_74 (by decide) rfl (by decide) rfl dX10_settled_42 ?_
      refine g_invVI (as := [.inl x1, .inr 67]) (rest := []) okX1_search mlX10_183 (by decide) rfl ⟨_, _, rfl⟩ rfl ⟨Nat.le_of_ble_eq_true rfl, Nat.le_of_ble_eq_true rfl⟩ (Nat.le_of_ble_eq_true rfl) rfl dX10_settled_45 h (Or.inr rfl) (fun v9 σ10 e11 => ?_)
      have h := e11
      refine g_if_ne (tgt := 55) dX10_settled_48 (by decide) (fun c12 => ?_) (fun c12 => ?_)
      · have h := h.1 c12
        refine g_iconst dX10_settled_55 (by decide) ?_
        exact g_ireturn rfl dX10_settled_56 h
      · have h := h.2 c12
        refine g_iconst dX10_settled_51 (by decide) ?_
        refine g_goto (tgt := 56) dX10_settled_52 (by decide) ?_
        exact g_ireturn rfl dX10_settled_56 h
  · have h := h.2 (ite_no c4)
    refine g_bipush dX10_settled_7 (by decide) (by decide) ?_
    exact g_ireturn rfl dX10_settled_9 h
set_option maxRecDepth 100000 in
theorem rX10_climb_0 {x1 : Int}  {σ : Mem} {Q : Int → Mem → Prop} (h : (0 ≤ x1 ∧ x1 < 4 → GO none mX10_climb 12 [some (.inr 0), some (.inl x1), some (.inl 0)] [] σ Q) ∧ (¬ (0 ≤ x1 ∧ x1 < 4) → Q (-2) σ)) : CM mX10_climb [.inr 0, .inl x1] σ Q := by
  refine CM_of_GO (by decide +kernel) rfl (Nat.le_of_ble_eq_true rfl) ?_
  show GO none mX10_climb 0 [some (.inr 0), some (.inl x1), none] [] σ Q
  refine g_iload_n dX10_climb_0 rfl rfl ?_
  refine g_invSI (as := [.inl x1]) (rest := []) okX10_isYear rfl mlX10_125 rfl ⟨Nat.le_of_ble_eq_true rfl, Nat.le_of_ble_eq_true rfl⟩ (Nat.le_of_ble_eq_true rfl) rfl dX10_climb_1 (c_X10_isYear) (Or.inr rfl) (fun v1 σ2 e3 => ?_)
  obtain ⟨e3a, e3b⟩ := e3; subst v1; subst σ2
  refine g_if_ne (tgt := 10) dX10_climb_4 (by decide) (fun c4 => ?_) (fun c4 => ?_)
  · have h := h.1 (ite_yes c4)
    refine g_iconst dX10_climb_10 (by decide) ?_
    refine g_istore_n (ls' := [some (.inr 0), some (.inl x1), some (.inl 0)]) dX10_climb_11 rfl (by decide) rfl ?_
    exact h
  · have h := h.2 (ite_no c4)
    refine g_bipush dX10_climb_7 (by decide) (by decide) ?_
    exact g_ireturn rfl dX10_climb_9 h
set_option maxRecDepth 100000 in
theorem rX10_climb_12 {x1 x2 : Int}  {σ : Mem} {Q : Int → Mem → Prop} (h : (720 ≤ x2 → Q x2 σ) ∧ (x2 < 720 → CM mX1_search [.inr 40, .inl x1, .inr 67] σ (fun v2 σ3 => (v2 = 0 → Q x2 σ3) ∧ (v2 ≠ 0 → CM mX8_copy [.inr 67, .inr 44] σ3 (fun _ σ10 => ((inR (x2 + 1)) ∧ (GO none mX10_climb 12 [some (.inr 0), some (.inl x1), some (.inl (x2 + 1))] [] σ10 Q))))))) : GO none mX10_climb 12 [some (.inr 0), some (.inl x1), some (.inl x2)] [] σ Q := by
  refine g_iload_n dX10_climb_12 rfl rfl ?_
  refine g_sipush dX10_climb_13 (by decide) (by decide) ?_
  refine g_icmp_ge (tgt := 54) dX10_climb_16 (by decide) (fun c1 => ?_) (fun c1 => ?_)
  · have h := h.1 c1
    refine g_iload_n dX10_climb_54 rfl rfl ?_
    exact g_ireturn rfl dX10_climb_55 h
  · have h := h.2 c1
    refine g_aload_n dX10_climb_19 rfl rfl ?_
    refine g_getR (r' := 40) flX10_53 (by decide) rfl (by decide) rfl dX10_climb_20 ?_
    refine g_iload_n dX10_climb_23 rfl rfl ?_
    refine g_aload_n dX10_climb_24 rfl rfl ?_
    refine g_getR (r' := 67) flX10_74 (by decide) rfl (by decide) rfl dX10_climb_25 ?_
    refine g_invVI (as := [.inl x1, .inr 67]) (rest := []) okX1_search mlX10_183 (by decide) rfl ⟨_, _, rfl⟩ rfl ⟨Nat.le_of_ble_eq_true rfl, Nat.le_of_ble_eq_true rfl⟩ (Nat.le_of_ble_eq_true rfl) rfl dX10_climb_28 h (Or.inr rfl) (fun v2 σ3 e4 => ?_)
    have h := e4
    refine g_if_eq (tgt := 54) dX10_climb_31 (by decide) (fun c5 => ?_) (fun c5 => ?_)
    · have h := h.1 c5
      refine g_iload_n dX10_climb_54 rfl rfl ?_
      exact g_ireturn rfl dX10_climb_55 h
    · have h := h.2 c5
      refine g_aload_n dX10_climb_34 rfl rfl ?_
      refine g_getR (r' := 67) flX10_74 (by decide) rfl (by decide) rfl dX10_climb_35 ?_
      refine g_aload_n dX10_climb_38 rfl rfl ?_
      refine g_getR (r' := 40) flX10_53 (by decide) rfl (by decide) rfl dX10_climb_39 ?_
      refine g_invVR (as := []) (rest := [.inr 67]) okX1_found mlX10_186 (by decide) rfl ⟨_, _, rfl⟩ rfl ⟨Nat.le_of_ble_eq_true rfl, Nat.le_of_ble_eq_true rfl⟩ (Nat.le_of_ble_eq_true rfl) rfl dX10_climb_42 (c_X1_found) rfl (fun v6 σ7 e8 => ?_)
      obtain ⟨e8, e8b⟩ := e8; subst σ7
      obtain rfl : v6 = 44 := by omega
      refine g_invVV (as := [.inr 44]) (rest := []) okX8_copy mlX10_156 (by decide) rfl ⟨_, _, rfl⟩ rfl ⟨Nat.le_of_ble_eq_true rfl, Nat.le_of_ble_eq_true rfl⟩ (Nat.le_of_ble_eq_true rfl) rfl dX10_climb_45 h rfl (fun σ10 e11 => ?_)
      have h := e11
      obtain ⟨p12, h⟩ := h
      refine g_iinc (ls' := [some (.inr 0), some (.inl x1), some (.inl (x2 + 1))]) dX10_climb_48 (by decide) rfl p12 rfl ?_
      refine g_goto (tgt := 12) dX10_climb_51 (by decide) ?_
      exact h
set_option maxRecDepth 100000 in
theorem rX10_move_0 {x1 : Int}  {σ : Mem} {Q : Int → Mem → Prop} (h : CM mX8_read [.inr 70, .inl x1, .inl (σ 14 6), .inl (σ 1 7)] σ (fun v7 σ8 => (v7 ≠ 0 → CM mX5_least [.inr 47, .inr 67, .inr 70] σ8 (fun v11 σ12 => Q v11 σ12)) ∧ (v7 = 0 → Q (-2) σ8))) : CM mX10_move [.inr 0, .inl x1] σ Q := by
  refine CM_of_GO (by decide +kernel) rfl (Nat.le_of_ble_eq_true rfl) ?_
  show GO none mX10_move 0 [some (.inr 0), some (.inl x1)] [] σ Q
  refine g_aload_n dX10_move_0 rfl rfl ?_
  refine g_getR (r' := 70) flX10_78 (by decide) rfl (by decide) rfl dX10_move_1 ?_
  refine g_iload_n dX10_move_4 rfl rfl ?_
  refine g_aload_n dX10_move_5 rfl rfl ?_
  refine g_getR (r' := 14) flX10_19 (by decide) rfl (by decide) rfl dX10_move_6 ?_
  refine g_invVI (as := []) (rest := [.inl x1, .inr 70]) okX9_shops mlX10_116 (by decide) rfl ⟨_, _, rfl⟩ rfl ⟨Nat.le_of_ble_eq_true rfl, Nat.le_of_ble_eq_true rfl⟩ (Nat.le_of_ble_eq_true rfl) rfl dX10_move_9 (c_X9_shops) (Or.inl rfl) (fun v1 σ2 e3 => ?_)
  obtain ⟨e3a, e3b⟩ := e3; subst v1; subst σ2
  refine g_aload_n dX10_move_12 rfl rfl ?_
  refine g_getR (r' := 1) flX10_12 (by decide) rfl (by decide) rfl dX10_move_13 ?_
  refine g_invVI (as := []) (rest := [.inl (σ 14 6), .inl x1, .inr 70]) okX2_slots mlX10_96 (by decide) rfl ⟨_, _, rfl⟩ rfl ⟨Nat.le_of_ble_eq_true rfl, Nat.le_of_ble_eq_true rfl⟩ (Nat.le_of_ble_eq_true rfl) rfl dX10_move_16 (c_X2_slots) (Or.inl rfl) (fun v4 σ5 e6 => ?_)
  obtain ⟨e6a, e6b⟩ := e6; subst v4; subst σ5
  refine g_invVI (as := [.inl x1, .inl (σ 14 6), .inl (σ 1 7)]) (rest := []) okX8_read mlX10_152 (by decide) rfl ⟨_, _, rfl⟩ rfl ⟨Nat.le_of_ble_eq_true rfl, Nat.le_of_ble_eq_true rfl⟩ (Nat.le_of_ble_eq_true rfl) rfl dX10_move_19 h (Or.inr rfl) (fun v7 σ8 e9 => ?_)
  have h := e9
  refine g_if_ne (tgt := 28) dX10_move_22 (by decide) (fun c10 => ?_) (fun c10 => ?_)
  · have h := h.1 c10
    refine g_aload_n dX10_move_28 rfl rfl ?_
    refine g_getR (r' := 47) flX10_60 (by decide) rfl (by decide) rfl dX10_move_29 ?_
    refine g_aload_n dX10_move_32 rfl rfl ?_
    refine g_getR (r' := 67) flX10_74 (by decide) rfl (by decide) rfl dX10_move_33 ?_
    refine g_aload_n dX10_move_36 rfl rfl ?_
    refine g_getR (r' := 70) flX10_78 (by decide) rfl (by decide) rfl dX10_move_37 ?_
    refine g_invVI (as := [.inr 67, .inr 70]) (rest := []) okX5_least mlX10_189 (by decide) rfl ⟨_, _, rfl⟩ rfl ⟨Nat.le_of_ble_eq_true rfl, Nat.le_of_ble_eq_true rfl⟩ (Nat.le_of_ble_eq_true rfl) rfl dX10_move_40 h (Or.inl rfl) (fun v11 σ12 e13 => ?_)
    have h := e13
    exact g_ireturn rfl dX10_move_43 h
  · have h := h.2 c10
    refine g_bipush dX10_move_25 (by decide) (by decide) ?_
    exact g_ireturn rfl dX10_move_27 h
set_option maxRecDepth 100000 in
theorem rX10_step_0 {x1 x2 : Int}  {σ : Mem} {Q : Int → Mem → Prop} (h : (x2 < 0 → Q (-2) σ) ∧ (0 ≤ x2 → CM mX8_read [.inr 70, .inl x1, .inl (σ 14 6), .inl (σ 1 7)] σ (fun v8 σ9 => (v8 ≠ 0 → CM mX5_walk [.inr 47, .inr 67, .inr 70, .inl x2] σ9 (fun v12 σ13 => Q v12 σ13)) ∧ (v8 = 0 → Q (-2) σ9)))) : CM mX10_step [.inr 0, .inl x1, .inl x2] σ Q := by
  refine CM_of_GO (by decide +kernel) rfl (Nat.le_of_ble_eq_true rfl) ?_
  show GO none mX10_step 0 [some (.inr 0), some (.inl x1), some (.inl x2)] [] σ Q
  refine g_iload_n dX10_step_0 rfl rfl ?_
  refine g_if_lt (tgt := 29) dX10_step_1 (by decide) (fun c1 => ?_) (fun c1 => ?_)
  · have h := h.1 c1
    refine g_bipush dX10_step_29 (by decide) (by decide) ?_
    exact g_ireturn rfl dX10_step_31 h
  · have h := h.2 c1
    refine g_aload_n dX10_step_4 rfl rfl ?_
    refine g_getR (r' := 70) flX10_78 (by decide) rfl (by decide) rfl dX10_step_5 ?_
    refine g_iload_n dX10_step_8 rfl rfl ?_
    refine g_aload_n dX10_step_9 rfl rfl ?_
    refine g_getR (r' := 14) flX10_19 (by decide) rfl (by decide) rfl dX10_step_10 ?_
    refine g_invVI (as := []) (rest := [.inl x1, .inr 70]) okX9_shops mlX10_116 (by decide) rfl ⟨_, _, rfl⟩ rfl ⟨Nat.le_of_ble_eq_true rfl, Nat.le_of_ble_eq_true rfl⟩ (Nat.le_of_ble_eq_true rfl) rfl dX10_step_13 (c_X9_shops) (Or.inl rfl) (fun v2 σ3 e4 => ?_)
    obtain ⟨e4a, e4b⟩ := e4; subst v2; subst σ3
    refine g_aload_n dX10_step_16 rfl rfl ?_
    refine g_getR (r' := 1) flX10_12 (by decide) rfl (by decide) rfl dX10_step_17 ?_
    refine g_invVI (as := []) (rest := [.inl (σ 14 6), .inl x1, .inr 70]) okX2_slots mlX10_96 (by decide) rfl ⟨_, _, rfl⟩ rfl ⟨Nat.le_of_ble_eq_true rfl, Nat.le_of_ble_eq_true rfl⟩ (Nat.le_of_ble_eq_true rfl) rfl dX10_step_20 (c_X2_slots) (Or.inl rfl) (fun v5 σ6 e7 => ?_)
    obtain ⟨e7a, e7b⟩ := e7; subst v5; subst σ6
    refine g_invVI (as := [.inl x1, .inl (σ 14 6), .inl (σ 1 7)]) (rest := []) okX8_read mlX10_152 (by decide) rfl ⟨_, _, rfl⟩ rfl ⟨Nat.le_of_ble_eq_true rfl, Nat.le_of_ble_eq_true rfl⟩ (Nat.le_of_ble_eq_true rfl) rfl dX10_step_23 h (Or.inr rfl) (fun v8 σ9 e10 => ?_)
    have h := e10
    refine g_if_ne (tgt := 32) dX10_step_26 (by decide) (fun c11 => ?_) (fun c11 => ?_)
    · have h := h.1 c11
      refine g_aload_n dX10_step_32 rfl rfl ?_
      refine g_getR (r' := 47) flX10_60 (by decide) rfl (by decide) rfl dX10_step_33 ?_
      refine g_aload_n dX10_step_36 rfl rfl ?_
      refine g_getR (r' := 67) flX10_74 (by decide) rfl (by decide) rfl dX10_step_37 ?_
      refine g_aload_n dX10_step_40 rfl rfl ?_
      refine g_getR (r' := 70) flX10_78 (by decide) rfl (by decide) rfl dX10_step_41 ?_
      refine g_iload_n dX10_step_44 rfl rfl ?_
      refine g_invVI (as := [.inr 67, .inr 70, .inl x2]) (rest := []) okX5_walk mlX10_192 (by decide) rfl ⟨_, _, rfl⟩ rfl ⟨Nat.le_of_ble_eq_true rfl, Nat.le_of_ble_eq_true rfl⟩ (Nat.le_of_ble_eq_true rfl) rfl dX10_step_45 h (Or.inl rfl) (fun v12 σ13 e14 => ?_)
      have h := e14
      exact g_ireturn rfl dX10_step_48 h
    · have h := h.2 c11
      refine g_bipush dX10_step_29 (by decide) (by decide) ?_
      exact g_ireturn rfl dX10_step_31 h
set_option maxRecDepth 100000 in
theorem rX10_plan_0 {x1 : Int}  {σ : Mem} {Q : Int → Mem → Prop} (h : (x1 < 1 → Q (-2) σ) ∧ (1 ≤ x1 → (x1 ≤ 4 → CM mX6_makePlan [.inr 51, .inl x1] σ (fun _ σ4 => Q (σ4 51 9) σ4)) ∧ (4 < x1 → Q (-2) σ))) : CM mX10_plan [.inr 0, .inl x1] σ Q := by
  refine CM_of_GO (by decide +kernel) rfl (Nat.le_of_ble_eq_true rfl) ?_
  show GO none mX10_plan 0 [some (.inr 0), some (.inl x1)] [] σ Q
  refine g_iload_n dX10_plan_0 rfl rfl ?_
  refine g_iconst dX10_plan_1 (by decide) ?_
  refine g_icmp_lt (tgt := 10) dX10_plan_2 (by decide) (fun c1 => ?_) (fun c1 => ?_)
  · have h := h.1 c1
    refine g_bipush dX10_plan_10 (by decide) (by decide) ?_
    exact g_ireturn rfl dX10_plan_12 h
  · have h := h.2 c1
    refine g_iload_n dX10_plan_5 rfl rfl ?_
    refine g_iconst dX10_plan_6 (by decide) ?_
    refine g_icmp_le (tgt := 13) dX10_plan_7 (by decide) (fun c2 => ?_) (fun c2 => ?_)
    · have h := h.1 c2
      refine g_aload_n dX10_plan_13 rfl rfl ?_
      refine g_getR (r' := 51) flX10_67 (by decide) rfl (by decide) rfl dX10_plan_14 ?_
      refine g_iload_n dX10_plan_17 rfl rfl ?_
      refine g_invVV (as := [.inl x1]) (rest := []) okX6_makePlan mlX10_196 (by decide) rfl ⟨_, _, rfl⟩ rfl ⟨Nat.le_of_ble_eq_true rfl, Nat.le_of_ble_eq_true rfl⟩ (Nat.le_of_ble_eq_true rfl) rfl dX10_plan_18 h rfl (fun σ4 e5 => ?_)
      have h := e5
      refine g_aload_n dX10_plan_21 rfl rfl ?_
      refine g_getR (r' := 51) flX10_67 (by decide) rfl (by decide) rfl dX10_plan_22 ?_
      refine g_invVI (as := []) (rest := []) okX6_price mlX10_199 (by decide) rfl ⟨_, _, rfl⟩ rfl ⟨Nat.le_of_ble_eq_true rfl, Nat.le_of_ble_eq_true rfl⟩ (Nat.le_of_ble_eq_true rfl) rfl dX10_plan_25 (c_X6_price) (Or.inl rfl) (fun v6 σ7 e8 => ?_)
      obtain ⟨e8a, e8b⟩ := e8; subst v6; subst σ7
      exact g_ireturn rfl dX10_plan_28 h
    · have h := h.2 c2
      refine g_bipush dX10_plan_10 (by decide) (by decide) ?_
      exact g_ireturn rfl dX10_plan_12 h
set_option maxRecDepth 100000 in
theorem rX10_planned_0 {x1 x2 : Int}  {σ : Mem} {Q : Int → Mem → Prop} (h : (x1 < 1 → Q (-2) σ) ∧ (1 ≤ x1 → (4 < x1 → Q (-2) σ) ∧ (x1 ≤ 4 → (x2 < 0 → Q (-2) σ) ∧ (0 ≤ x2 → (x2 < x1 → CM mX6_makePlan [.inr 51, .inl x1] σ (fun _ σ6 => CM mX6_toldOf [.inr 51, .inl x2] σ6 (fun v8 σ9 => Q v8 σ9))) ∧ (x1 ≤ x2 → Q (-2) σ))))) : CM mX10_planned [.inr 0, .inl x1, .inl x2] σ Q := by
  refine CM_of_GO (by decide +kernel) rfl (Nat.le_of_ble_eq_true rfl) ?_
  show GO none mX10_planned 0 [some (.inr 0), some (.inl x1), some (.inl x2)] [] σ Q
  refine g_iload_n dX10_planned_0 rfl rfl ?_
  refine g_iconst dX10_planned_1 (by decide) ?_
  refine g_icmp_lt (tgt := 19) dX10_planned_2 (by decide) (fun c1 => ?_) (fun c1 => ?_)
  · have h := h.1 c1
    refine g_bipush dX10_planned_19 (by decide) (by decide) ?_
    exact g_ireturn rfl dX10_planned_21 h
  · have h := h.2 c1
    refine g_iload_n dX10_planned_5 rfl rfl ?_
    refine g_iconst dX10_planned_6 (by decide) ?_
    refine g_icmp_gt (tgt := 19) dX10_planned_7 (by decide) (fun c2 => ?_) (fun c2 => ?_)
    · have h := h.1 c2
      refine g_bipush dX10_planned_19 (by decide) (by decide) ?_
      exact g_ireturn rfl dX10_planned_21 h
    · have h := h.2 c2
      refine g_iload_n dX10_planned_10 rfl rfl ?_
      refine g_if_lt (tgt := 19) dX10_planned_11 (by decide) (fun c3 => ?_) (fun c3 => ?_)
      · have h := h.1 c3
        refine g_bipush dX10_planned_19 (by decide) (by decide) ?_
        exact g_ireturn rfl dX10_planned_21 h
      · have h := h.2 c3
        refine g_iload_n dX10_planned_14 rfl rfl ?_
        refine g_iload_n dX10_planned_15 rfl rfl ?_
        refine g_icmp_lt (tgt := 22) dX10_planned_16 (by decide) (fun c4 => ?_) (fun c4 => ?_)
        · have h := h.1 c4
          refine g_aload_n dX10_planned_22 rfl rfl ?_
          refine g_getR (r' := 51) flX10_67 (by decide) rfl (by decide) rfl dX10_planned_23 ?_
          refine g_iload_n dX10_planned_26 rfl rfl ?_
          refine g_invVV (as := [.inl x1]) (rest := []) okX6_makePlan mlX10_196 (by decide) rfl ⟨_, _, rfl⟩ rfl ⟨Nat.le_of_ble_eq_true rfl, Nat.le_of_ble_eq_true rfl⟩ (Nat.le_of_ble_eq_true rfl) rfl dX10_planned_27 h rfl (fun σ6 e7 => ?_)
          have h := e7
          refine g_aload_n dX10_planned_30 rfl rfl ?_
          refine g_getR (r' := 51) flX10_67 (by decide) rfl (by decide) rfl dX10_planned_31 ?_
          refine g_iload_n dX10_planned_34 rfl rfl ?_
          refine g_invVI (as := [.inl x2]) (rest := []) okX6_toldOf mlX10_202 (by decide) rfl ⟨_, _, rfl⟩ rfl ⟨Nat.le_of_ble_eq_true rfl, Nat.le_of_ble_eq_true rfl⟩ (Nat.le_of_ble_eq_true rfl) rfl dX10_planned_35 h (Or.inl rfl) (fun v8 σ9 e10 => ?_)
          have h := e10
          exact g_ireturn rfl dX10_planned_38 h
        · have h := h.2 c4
          refine g_bipush dX10_planned_19 (by decide) (by decide) ?_
          exact g_ireturn rfl dX10_planned_21 h
set_option maxRecDepth 100000 in
theorem rX10_count_0 {x1 : Int}  {σ : Mem} {Q : Int → Mem → Prop} (h : (x1 < 0 ∨ 4 < x1 → Q (-2) σ) ∧ (x1 = 0 → Q (σ 1 7) σ) ∧ (x1 = 1 → Q (σ 14 6) σ) ∧ (x1 = 2 → Q (σ 14 7) σ) ∧ (x1 = 3 → Q (cntF (σ 3) 1 36) σ) ∧ (x1 = 4 → Q (cntF (σ 3) 3 36) σ)) : CM mX10_count [.inr 0, .inl x1] σ Q := by
  refine CM_of_GO (by decide +kernel) rfl (Nat.le_of_ble_eq_true rfl) ?_
  show GO none mX10_count 0 [some (.inr 0), some (.inl x1)] [] σ Q
  refine g_iload_n dX10_count_0 rfl rfl ?_
  refine g_table dX10_count_1 (fun c9 => ⟨78, by decide, ?_⟩) (fun c8 c9 => ?_)
  · have h := h.1 c9
    refine g_bipush dX10_count_78 (by decide) (by decide) ?_
    exact g_ireturn rfl dX10_count_80 h
  · have h := h.2
    rcases (show x1 = 0 ∨ x1 = 1 ∨ x1 = 2 ∨ x1 = 3 ∨ x1 = 4 by omega) with c7 | c7 | c7 | c7 | c7
    · refine ⟨35, 36, by rw [c7]; rfl, by decide, ?_⟩
      have h := h.1 c7
      refine g_aload_n dX10_count_36 rfl rfl ?_
      refine g_getR (r' := 1) flX10_12 (by decide) rfl (by decide) rfl dX10_count_37 ?_
      refine g_invVI (as := []) (rest := []) okX2_slots mlX10_96 (by decide) rfl ⟨_, _, rfl⟩ rfl ⟨Nat.le_of_ble_eq_true rfl, Nat.le_of_ble_eq_true rfl⟩ (Nat.le_of_ble_eq_true rfl) rfl dX10_count_40 (c_X2_slots) (Or.inl rfl) (fun v1 σ2 e3 => ?_)
      obtain ⟨e3a, e3b⟩ := e3; subst v1; subst σ2
      exact g_ireturn rfl dX10_count_43 h
    · refine ⟨43, 44, by rw [c7]; rfl, by decide, ?_⟩
      have h := h.2.1 c7
      refine g_aload_n dX10_count_44 rfl rfl ?_
      refine g_getR (r' := 14) flX10_19 (by decide) rfl (by decide) rfl dX10_count_45 ?_
      refine g_invVI (as := []) (rest := []) okX9_shops mlX10_116 (by decide) rfl ⟨_, _, rfl⟩ rfl ⟨Nat.le_of_ble_eq_true rfl, Nat.le_of_ble_eq_true rfl⟩ (Nat.le_of_ble_eq_true rfl) rfl dX10_count_48 (c_X9_shops) (Or.inl rfl) (fun v4 σ5 e6 => ?_)
      obtain ⟨e6a, e6b⟩ := e6; subst v4; subst σ5
      exact g_ireturn rfl dX10_count_51 h
    · refine ⟨51, 52, by rw [c7]; rfl, by decide, ?_⟩
      have h := h.2.2.1 c7
      refine g_aload_n dX10_count_52 rfl rfl ?_
      refine g_getR (r' := 14) flX10_19 (by decide) rfl (by decide) rfl dX10_count_53 ?_
      refine g_invVI (as := []) (rest := []) okX9_wishes mlX10_142 (by decide) rfl ⟨_, _, rfl⟩ rfl ⟨Nat.le_of_ble_eq_true rfl, Nat.le_of_ble_eq_true rfl⟩ (Nat.le_of_ble_eq_true rfl) rfl dX10_count_56 (c_X9_wishes) (Or.inl rfl) (fun v7 σ8 e9 => ?_)
      obtain ⟨e9a, e9b⟩ := e9; subst v7; subst σ8
      exact g_ireturn rfl dX10_count_59 h
    · refine ⟨59, 60, by rw [c7]; rfl, by decide, ?_⟩
      have h := h.2.2.2.1 c7
      refine g_aload_n dX10_count_60 rfl rfl ?_
      refine g_getR (r' := 1) flX10_12 (by decide) rfl (by decide) rfl dX10_count_61 ?_
      refine g_iconst dX10_count_64 (by decide) ?_
      refine g_invVI (as := [.inl 1]) (rest := []) okX2_cellsOf mlX10_205 (by decide) rfl ⟨_, _, rfl⟩ rfl ⟨Nat.le_of_ble_eq_true rfl, Nat.le_of_ble_eq_true rfl⟩ (Nat.le_of_ble_eq_true rfl) rfl dX10_count_65 (c_X2_cellsOf) (Or.inl rfl) (fun v10 σ11 e12 => ?_)
      obtain ⟨e12a, e12b⟩ := e12; subst v10; subst σ11
      exact g_ireturn rfl dX10_count_68 h
    · refine ⟨68, 69, by rw [c7]; rfl, by decide, ?_⟩
      have h := h.2.2.2.2 c7
      refine g_aload_n dX10_count_69 rfl rfl ?_
      refine g_getR (r' := 1) flX10_12 (by decide) rfl (by decide) rfl dX10_count_70 ?_
      refine g_iconst dX10_count_73 (by decide) ?_
      refine g_invVI (as := [.inl 3]) (rest := []) okX2_cellsOf mlX10_205 (by decide) rfl ⟨_, _, rfl⟩ rfl ⟨Nat.le_of_ble_eq_true rfl, Nat.le_of_ble_eq_true rfl⟩ (Nat.le_of_ble_eq_true rfl) rfl dX10_count_74 (c_X2_cellsOf) (Or.inl rfl) (fun v13 σ14 e15 => ?_)
      obtain ⟨e15a, e15b⟩ := e15; subst v13; subst σ14
      exact g_ireturn rfl dX10_count_77 h
def tldIs (Z : Zt) (x : Int) (q : List Nat) : Prop := q.length = dm (zD Z) ∧ okP (dn (zD Z)) q ∧ tld q = x
def nxPut (Z : Zt) (x v : Int) (Z' : Zt) : Prop := (∃ q, tldIs Z x q ∧ v = 1 ∧ Z' = zH Z q) ∨ ((∀ q, ¬ tldIs Z x q) ∧ v = -2 ∧ Z' = Z)
theorem okP.s6 {Z : Zt} (hZ : GZ Z) {q : List Nat} (h : okP (dn (zD Z)) q) : ∀ s ∈ q, s < 6 := fun s hs => Nat.lt_of_lt_of_le (h.1 s hs) hZ.n6
theorem k_read {Z : Zt} {σ : Mem} {x : Int} (hZ : GZ Z) (hC : CI Z σ) : CM mX8_read [.inr 70, .inl x, .inl (σ 14 6), .inl (σ 1 7)] σ (fun v σ1 => Same [70, 72] σ σ1 ∧ CI Z σ1 ∧ ((v = 1 ∧ ∃ q, tldIs Z x q ∧ σ1 70 1 = dm (zD Z) ∧ hld σ1 72 q) ∨ (v = 0 ∧ ∀ q, ¬ tldIs Z x q))) := by
  refine CM.mono (fun v σ1 hq => ?_) (c_X8_read (m := dm (zD Z)) (n := dn (zD Z)) seats70 hZ.m5 hZ.n6 hC.d.2.1 hC.d.1)
  obtain ⟨h1, h2⟩ := hq
  refine ⟨h1, hC.same h1 (by decide), ?_⟩
  rcases h2 with ⟨rfl, q, p1, p2, p3, p4⟩ | ⟨rfl, h2⟩
  · exact Or.inl ⟨rfl, q, ⟨p1.1, p1.2, p2⟩, p3, p4⟩
  · exact Or.inr ⟨rfl, fun q hq => h2 q ⟨hq.1, hq.2.1⟩ hq.2.2⟩
theorem c_X10_put {Z : Zt} {σ : Mem} {x : Int} (hZ : GZ Z) (hC : CI Z σ) : CM mX10_put [.inr 0, .inl x] σ (CQ σ (nxPut Z x)) := by
  refine rX10_put_0 (CM.mono (fun v σ1 hq => ?_) (k_read (x := x) hZ hC))
  obtain ⟨h1, hC1, h2⟩ := hq
  refine ⟨fun hv => ?_, fun hv => ?_⟩
  · obtain ⟨rfl, q, p1, p2, p3⟩ := h2.resolve_right (fun w => hv w.1)
    have hm5 := hZ.m5
    refine CM.mono (fun _ σ2 hq => ?_) (c_X8_copy (k := 67) (j := 70) (p := q) seats67 seats70 (by decide) p3 (by rw [p2, p1.1]) (by rw [p1.1]; exact hm5))
    obtain ⟨g1, g2, g3⟩ := hq
    exact ⟨zH Z q, Or.inl ⟨q, p1, rfl, rfl⟩, zH_good hZ p1.1 p1.2.1, hC1.hand g3 (by decide) g2 (by rw [g1, p1.1]), (h1.wk (by decide)).tr (g3.wk (by decide))⟩
  · obtain ⟨-, h2⟩ := h2.resolve_left (fun w => by omega)
    exact ⟨Z, Or.inr ⟨h2, rfl, rfl⟩, hZ, hC1, h1.wk (by decide)⟩
theorem c_X10_places {Z : Zt} {σ : Mem} (hZ : GZ Z) (hC : CI Z σ) : CM mX10_places [.inr 0] σ (CQ σ (nxA Z (fun v => v = tld (zh Z)))) := by
  refine rX10_places_0 (CM.mono (fun v σ1 hq => ?_) (c_X8_told (k := 67) (p := zh Z) seats67 hC.h (by rw [hZ.len]; exact hC.m) (by rw [hZ.len]; exact hZ.m5) (okP.s6 hZ hZ.ok)))
  obtain ⟨rfl, rfl⟩ := hq
  exact CQ.stay0 hZ hC rfl
theorem isY_nat {y : Int} (h : isY y) : ∃ k : Nat, k < 4 ∧ y = k ∧ y.toNat = k := ⟨y.toNat, by unfold isY at h; omega, by unfold isY at h; omega, rfl⟩
/-- an answer over a year -/
def aYr (y : Int) (A : Nat → Int → Prop) (v : Int) : Prop := (isY y ∧ A y.toNat v) ∨ (¬ isY y ∧ v = -2)
theorem aYr.yes {y : Nat} {A : Nat → Int → Prop} {v : Int} (h : y < 4) (hA : A y v) : aYr (y : Int) A v := Or.inl ⟨by unfold isY; omega, by rw [Int.toNat_natCast]; exact hA⟩
theorem CQ.badY {Z : Zt} {σ : Mem} {y : Int} {A : Nat → Int → Prop} (hZ : GZ Z) (hC : CI Z σ) (h : ¬ isY y) : CQ σ (nxA Z (aYr y A)) (-2) σ := CQ.stay0 hZ hC (Or.inr ⟨h, rfl⟩)
theorem c_X10_cost {Z : Zt} {σ : Mem} {y : Int} (hZ : GZ Z) (hC : CI Z σ) : CM mX10_cost [.inr 0, .inl y] σ (CQ σ (nxA Z (aYr y (fun k v => v = cost (zD Z) k (zh Z))))) := by
  refine rX10_cost_0 ⟨fun h => ?_, fun h => CQ.badY hZ hC h⟩
  obtain ⟨k, hk, rfl, -⟩ := isY_nat h
  refine CM.mono (fun v σ1 hq => ?_) (c_X3_costOf (k := 67) (y := k) (p := zh Z) hZ.wf hC.d seats67 hC.h (by rw [hZ.len]; exact hC.m) hZ.len hZ.ok.1 hk rfl)
  obtain ⟨rfl, rfl⟩ := hq
  exact CQ.stay0 hZ hC (aYr.yes hk rfl)
theorem c_X10_best {Z : Zt} {σ : Mem} {y : Int} (hZ : GZ Z) (hC : CI Z σ) : CM mX10_best [.inr 0, .inl y] σ (CQ σ (nxA Z (aYr y (fun k v => v = (bestS (zD Z) k).1)))) := by
  refine rX10_best_0 ⟨fun h => ?_, fun h => CQ.badY hZ hC h⟩
  obtain ⟨k, hk, rfl, -⟩ := isY_nat h
  refine CM.mono (fun v σ1 hq => ?_) (c_X0_search (y := k) hZ.wf hC.d hk rfl)
  exact CQ.stay hZ hC hq.2 (by decide) (by decide) (aYr.yes hk hq.1.1)
theorem c_X10_many {Z : Zt} {σ : Mem} {y : Int} (hZ : GZ Z) (hC : CI Z σ) : CM mX10_many [.inr 0, .inl y] σ (CQ σ (nxA Z (aYr y (fun k v => v = (bestS (zD Z) k).2.1)))) := by
  refine rX10_many_0 ⟨fun h => ?_, fun h => CQ.badY hZ hC h⟩
  obtain ⟨k, hk, rfl, -⟩ := isY_nat h
  refine CM.mono (fun v σ1 hq => ?_) (c_X0_search (y := k) hZ.wf hC.d hk rfl)
  exact CQ.stay hZ hC hq.2 (by decide) (by decide) (aYr.yes hk hq.1.2.1)
theorem bst_mem {c : List Nat → Int} : ∀ (E : List (List Nat)) (s : Int × Int × List Nat), (E.foldl (bst c) s).1 ≠ -1 → (E.foldl (bst c) s).2.2 ∈ E ∨ (s.1 ≠ -1 ∧ (E.foldl (bst c) s).2.2 = s.2.2)
  | [], s, h => Or.inr ⟨h, rfl⟩
  | p :: E, s, h => by
    rw [List.foldl_cons] at h ⊢
    rcases bst_mem E (bst c s p) h with w | ⟨w1, w2⟩
    · exact Or.inl (List.mem_cons_of_mem _ w)
    · rw [w2]
      unfold bst at w1 ⊢
      by_cases e : c p = -1
      · rw [if_pos e] at w1 ⊢; exact Or.inr ⟨w1, rfl⟩
      · rw [if_neg e] at w1 ⊢
        by_cases e2 : s.1 = -1 ∨ c p < s.1
        · rw [if_pos e2]; exact Or.inl (List.mem_cons_self ..)
        · rw [if_neg e2]
          have : s.1 ≠ -1 := fun q => e2 (Or.inl q)
          split
          · exact Or.inr ⟨this, rfl⟩
          · exact Or.inr ⟨this, rfl⟩
theorem bestS_mem {D : Dt} {y : Nat} (h : (bestS D y).1 ≠ -1) : (bestS D y).2.2 ∈ pE D := (bst_mem (enumN (dm D) (dn D)) (-1, 0, []) h).resolve_right (fun q => q.1 rfl)
def nxTake (Z : Zt) (y v : Int) (Z' : Zt) : Prop := (¬ isY y ∧ v = -2 ∧ Z' = Z) ∨ (isY y ∧ (bestS (zD Z) y.toNat).1 = -1 ∧ v = -3 ∧ Z' = Z) ∨ (isY y ∧ (bestS (zD Z) y.toNat).1 ≠ -1 ∧ v = (bestS (zD Z) y.toNat).1 ∧ Z' = zH Z (bestS (zD Z) y.toNat).2.2)
theorem c_X10_take {Z : Zt} {σ : Mem} {y : Int} (hZ : GZ Z) (hC : CI Z σ) : CM mX10_take [.inr 0, .inl y] σ (CQ σ (nxTake Z y)) := by
  refine rX10_take_0 ⟨fun h => ?_, fun h => ⟨Z, Or.inl ⟨h, rfl, rfl⟩, hZ, hC, Same.rf⟩⟩
  obtain ⟨k, hk, ey, e2⟩ := isY_nat h
  refine CM.mono (fun v σ1 hq => ?_) (c_X0_search (y := k) hZ.wf hC.d hk ey)
  obtain ⟨⟨h1, h2, h3⟩, hS⟩ := hq
  have hC1 := hC.same hS (by decide)
  rw [h1]
  refine ⟨fun hv => ?_, fun hv => ⟨Z, Or.inr (Or.inl ⟨h, by rw [e2]; exact hv, rfl, rfl⟩), hZ, hC1, hS.wk (by decide)⟩⟩
  have hm := pE_ok (bestS_mem hv)
  obtain ⟨g1, g2, g3⟩ := h3 hv
  refine CM.mono (fun _ σ2 hq => ?_) (c_X8_copy (k := 67) (j := 37) (p := (bestS (zD Z) k).2.2) seats67 seats37 (by decide) g3 (by rw [g2, g1]) (by rw [g1]; exact hZ.m5))
  obtain ⟨f1, f2, f3⟩ := hq
  refine ⟨zH Z (bestS (zD Z) k).2.2, Or.inr (Or.inr ⟨h, by rw [e2]; exact hv, ?_, by rw [e2]⟩), zH_good hZ hm.1 hm.2, hC1.hand f3 (by decide) f2 (by rw [f1, g1]), (hS.wk (by decide)).tr (f3.wk (by decide))⟩
  rw [f3 33 (by decide), e2]
  exact h1
theorem c_X10_floor {Z : Zt} {σ : Mem} {y : Int} (hZ : GZ Z) (hC : CI Z σ) : CM mX10_floor [.inr 0, .inl y] σ (CQ σ (nxA Z (aYr y (fun k v => FloorIs (zD Z) k v)))) := by
  refine rX10_floor_0 ⟨fun h => ?_, fun h => CQ.badY hZ hC h⟩
  obtain ⟨k, hk, rfl, -⟩ := isY_nat h
  refine CM.mono (fun v σ1 hq => ?_) (c_X4_of (y := k) hZ.wf hC.d hk rfl)
  exact CQ.stay hZ hC hq.2 (by decide) (by decide) (aYr.yes hk hq.1)
def aSet (Z : Zt) (k : Nat) (v : Int) : Prop := (cost (zD Z) k (zh Z) ≠ -1 ∧ (fcS (cost (zD Z) k) (dn (zD Z)) (zh Z)).2 = none ∧ v = 1) ∨ (¬ (cost (zD Z) k (zh Z) ≠ -1 ∧ (fcS (cost (zD Z) k) (dn (zD Z)) (zh Z)).2 = none) ∧ v = 0)
theorem k_search {Z : Zt} {σ : Mem} {k : Nat} (hZ : GZ Z) (hC : CI Z σ) (hk : k < 4) : CM mX1_search [.inr 40, .inl (k : Int), .inr 67] σ (fun v σ1 => v = (if (fcS (cost (zD Z) k) (dn (zD Z)) (zh Z)).2 = none then 0 else 1) ∧ clH (dm (zD Z)) (fcS (cost (zD Z) k) (dn (zD Z)) (zh Z)) σ1 ∧ Same [40, 41, 43, 44, 46] σ σ1) :=
  c_X1_search (k := 67) hZ.wf hC.d seats67 (by decide) hC.h (by rw [hZ.len]; exact hC.m) hZ.len hZ.ok hk rfl
theorem c_X10_settled {Z : Zt} {σ : Mem} {y : Int} (hZ : GZ Z) (hC : CI Z σ) : CM mX10_settled [.inr 0, .inl y] σ (CQ σ (nxA Z (aYr y (aSet Z)))) := by
  refine rX10_settled_0 ⟨fun h => ?_, fun h => CQ.badY hZ hC h⟩
  obtain ⟨k, hk, rfl, -⟩ := isY_nat h
  refine CM.mono (fun v σ1 hq => ?_) (c_X3_costOf (k := 67) (y := k) (p := zh Z) hZ.wf hC.d seats67 hC.h (by rw [hZ.len]; exact hC.m) hZ.len hZ.ok.1 hk rfl)
  obtain ⟨rfl, rfl⟩ := hq
  refine ⟨fun hv => CQ.stay0 hZ hC (aYr.yes hk (Or.inr ⟨fun q => q.1 hv, rfl⟩)), fun hv => ?_⟩
  refine CM.mono (fun v σ1 hq => ?_) (k_search hZ hC hk)
  obtain ⟨rfl, -, hS⟩ := hq
  refine ⟨fun h0 => CQ.stay hZ hC hS (by decide) (by decide) (aYr.yes hk (Or.inr ⟨fun q => h0 (by rw [if_pos q.2]), rfl⟩)), fun h0 => CQ.stay hZ hC hS (by decide) (by decide) (aYr.yes hk (Or.inl ⟨hv, ?_, rfl⟩))⟩
  exact Classical.byContradiction (fun q => by rw [if_neg q] at h0; omega)
def nxClimb (Z : Zt) (y v : Int) (Z' : Zt) : Prop := (¬ isY y ∧ v = -2 ∧ Z' = Z) ∨ (isY y ∧ ∃ (i : Nat) (q : List Nat), clS (cost (zD Z) y.toNat) (dn (zD Z)) (zh Z) i q ∧ (fcS (cost (zD Z) y.toNat) (dn (zD Z)) q).2 = none ∧ v = i ∧ Z' = zH Z q)
theorem c_X10_climb {Z : Zt} {σ : Mem} {y : Int} (hZ : GZ Z) (hC : CI Z σ) : CM mX10_climb [.inr 0, .inl y] σ (CQ σ (nxClimb Z y)) := by
  refine rX10_climb_0 ⟨fun h => ?_, fun h => ⟨Z, Or.inl ⟨h, rfl, rfl⟩, hZ, hC, Same.rf⟩⟩
  obtain ⟨k, hk, ey, e2⟩ := isY_nat h
  have hm5 := hZ.m5
  have key : ∀ (d i : Nat) (q : List Nat) (σ0 : Mem), i + d = 720 → clS (cost (zD Z) k) (dn (zD Z)) (zh Z) i q → CI (zH Z q) σ0 → Same cls σ σ0 → GO none mX10_climb 12 [some (.inr 0), some (.inl y), some (.inl (i : Int))] [] σ0 (CQ σ (nxClimb Z y)) := by
    intro d
    induction d with
    | zero =>
      intro i q σ0 hd hcl hC0 hS0
      have w := clS_ok hZ.ok i q hcl
      have hq := zH_good hZ (by rw [w.1]; exact hZ.len) w.2
      refine rX10_climb_12 ⟨fun _ => ⟨zH Z q, Or.inr ⟨h, i, q, by rw [e2]; exact hcl, ?_, rfl, rfl⟩, hq, hC0, hS0⟩, fun h => by omega⟩
      rw [e2]
      cases e : (fcS (cost (zD Z) k) (dn (zD Z)) q).2 with
      | none => rfl
      | some r =>
        have := clS_bd (k := i + 1) (q := r) hZ.ok hZ.n6 (by rw [hZ.len]; exact hm5) (by rw [hZ.len]; exact hZ.mn) ⟨q, hcl, e⟩
        omega
    | succ d ih =>
      intro i q σ0 hd hcl hC0 hS0
      have w := clS_ok hZ.ok i q hcl
      have hq := zH_good hZ (by rw [w.1]; exact hZ.len) w.2
      refine rX10_climb_12 ⟨fun h => by omega, fun h2 => ?_⟩
      rw [ey]
      refine CM.mono (fun v σ1 hv => ?_) (k_search hq hC0 hk)
      obtain ⟨rfl, hcl1, hS1⟩ := hv
      have hC1 := hC0.same hS1 (by decide)
      change clH (dm (zD Z)) (fcS (cost (zD Z) k) (dn (zD Z)) q) σ1 at hcl1
      show ((if (fcS (cost (zD Z) k) (dn (zD Z)) q).2 = none then (0 : Int) else 1) = 0 → _) ∧ ((if (fcS (cost (zD Z) k) (dn (zD Z)) q).2 = none then (0 : Int) else 1) ≠ 0 → _)
      rw [← ey]
      refine ⟨fun h0 => ⟨zH Z q, Or.inr ⟨h, i, q, by rw [e2]; exact hcl, ?_, rfl, rfl⟩, hq, hC1, hS0.tr (hS1.wk (by decide))⟩, fun h0 => ?_⟩
      · rw [e2]
        exact Classical.byContradiction (fun q => by rw [if_neg q] at h0; omega)
      · have hne := fun q => h0 (if_pos q)
        obtain ⟨r, hr⟩ : ∃ r, (fcS (cost (zD Z) k) (dn (zD Z)) q).2 = some r := Option.ne_none_iff_exists'.mp hne
        obtain ⟨g1, g2, g3⟩ := hcl1.2.2 r hr
        refine CM.mono (fun _ σ2 hv => ?_) (c_X8_copy (k := 67) (j := 44) (p := r) seats67 seats44 (by decide) g3 (by rw [g2, g1]) (by rw [g1]; exact hm5))
        obtain ⟨f1, f2, f3⟩ := hv
        refine ⟨by omega, ?_⟩
        exact ih (i + 1) r σ2 (by omega) ⟨q, hcl, hr⟩ (hC1.hand f3 (by decide) f2 (by rw [f1, g1]; rfl)) ((hS0.tr (hS1.wk (by decide))).tr (f3.wk (by decide)))
  exact key 720 0 (zh Z) σ rfl rfl hC Same.rf
def aMove (Z : Zt) (x v : Int) : Prop := (∃ q, tldIs Z x q ∧ v = lstF (dV (zD Z)) (dn (zD Z)) (zh Z) q) ∨ ((∀ q, ¬ tldIs Z x q) ∧ v = -2)
theorem c_X10_move {Z : Zt} {σ : Mem} {x : Int} (hZ : GZ Z) (hC : CI Z σ) : CM mX10_move [.inr 0, .inl x] σ (CQ σ (nxA Z (aMove Z x))) := by
  refine rX10_move_0 (CM.mono (fun v σ1 hq => ?_) (k_read (x := x) hZ hC))
  obtain ⟨h1, hC1, h2⟩ := hq
  refine ⟨fun hv => ?_, fun hv => ?_⟩
  · obtain ⟨rfl, q, p1, p2, p3⟩ := h2.resolve_right (fun w => hv w.1)
    refine CM.mono (fun _ σ2 hq => ?_) (c_X5_least (k := 67) (j := 70) (p := zh Z) (q := q) hZ.wf hC1.d seats67 seats70 hC1.h p3 (by rw [hZ.len]; exact hC1.m) hZ.len p1.1 hZ.ok.2)
    obtain ⟨rfl, rfl⟩ := hq
    exact CQ.stay hZ hC h1 (by decide) (by decide) (Or.inl ⟨q, p1, rfl⟩)
  · obtain ⟨-, h2⟩ := h2.resolve_left (fun w => by omega)
    exact CQ.stay hZ hC h1 (by decide) (by decide) (Or.inr ⟨h2, rfl⟩)
def aStep (Z : Zt) (x i v : Int) : Prop := (0 ≤ i ∧ ∃ q, tldIs Z x q ∧ v = (if 7 ≤ i then -1 else wkF (dV (zD Z)) (dn (zD Z)) q i.toNat (zh Z))) ∨ (¬ (0 ≤ i ∧ ∃ q, tldIs Z x q) ∧ v = -2)
theorem c_X10_step {Z : Zt} {σ : Mem} {x i : Int} (hZ : GZ Z) (hC : CI Z σ) : CM mX10_step [.inr 0, .inl x, .inl i] σ (CQ σ (nxA Z (aStep Z x i))) := by
  refine rX10_step_0 ⟨fun h => CQ.stay0 hZ hC (Or.inr ⟨fun q => by have := q.1; omega, rfl⟩), fun h => CM.mono (fun v σ1 hq => ?_) (k_read (x := x) hZ hC)⟩
  obtain ⟨h1, hC1, h2⟩ := hq
  refine ⟨fun hv => ?_, fun hv => ?_⟩
  · obtain ⟨rfl, q, p1, p2, p3⟩ := h2.resolve_right (fun w => hv w.1)
    refine CM.mono (fun _ σ2 hq => ?_) (c_X5_walk (k := 67) (j := 70) (p := zh Z) (q := q) hZ.wf hC1.d seats67 seats70 (by decide) (by decide) hC1.h p3 (by rw [hZ.len]; exact hC1.m) hZ.len p1.1 hZ.ok h)
    obtain ⟨rfl, hS⟩ := hq
    exact CQ.stay (S := [48, 50, 70, 72]) hZ hC ((h1.wk (by decide)).tr (hS.wk (by decide))) (by decide) (by decide) (Or.inl ⟨h, q, p1, rfl⟩)
  · obtain ⟨-, h2⟩ := h2.resolve_left (fun w => by omega)
    exact CQ.stay hZ hC h1 (by decide) (by decide) (Or.inr ⟨fun w => w.2.elim h2, rfl⟩)
theorem planP_pos {D : Dt} (hw : WF D) {n : Nat} (h1 : 1 ≤ n) (h4 : n ≤ 4) {v : Int} (h : planP D n = some v) : 0 ≤ v := by
  unfold planP at h
  cases e : fmin (bv D (n - 1) 0) (pE D) with
  | none => rw [e] at h; cases h
  | some a =>
    rw [e] at h
    cases h
    have w := fmin_some (v := a.1) (q := a.2) e
    exact (bv_bd hw (n - 1) 0 a.2 a.1 (by omega) w.1 w.2.1).1
def isN (n : Int) : Prop := 1 ≤ n ∧ n ≤ 4
def plV (D : Dt) (n : Nat) (v : Int) : Prop := (planP D n = none ∧ v = -1) ∨ planP D n = some v
def aPlan (Z : Zt) (n v : Int) : Prop := (isN n ∧ plV (zD Z) n.toNat v) ∨ (¬ isN n ∧ v = -2)
theorem k_plan {Z : Zt} {σ : Mem} {k : Nat} (hZ : GZ Z) (hC : CI Z σ) (h1 : 1 ≤ k) (h4 : k ≤ 4) : CM mX6_makePlan [.inr 51, .inl (k : Int)] σ (fun _ σ1 => PlanOK (zD Z) k σ1 ∧ GZ Z ∧ CI Z σ1 ∧ Same cls σ σ1) := by
  refine CM.mono (fun _ σ1 hq => ?_) (c_X6_makePlan (n := k) hZ.wf hC.d h1 h4 rfl hC.p (fun e => ?_))
  · obtain ⟨q1, q2, q3, hS⟩ := hq
    refine ⟨q1, hZ, ⟨by rw [hS 3 (by decide)]; exact hC.k, by rw [hS 5 (by decide)]; exact hC.c, hC.d.same hS (by decide), hC.h.cong (hS 69 (by decide)), by rw [hS 67 (by decide)]; exact hC.m, q3, Or.inr ⟨k, h1, q2, q1⟩⟩, hS.wk (by decide)⟩
  · rcases hC.q with w | ⟨nn, w1, w2, w3⟩
    · omega
    · rw [w2] at e
      have : nn = k := by omega
      rw [← this]
      exact w3
theorem c_X10_plan {Z : Zt} {σ : Mem} {n : Int} (hZ : GZ Z) (hC : CI Z σ) : CM mX10_plan [.inr 0, .inl n] σ (CQ σ (nxA Z (aPlan Z n))) := by
  refine rX10_plan_0 ⟨fun h => CQ.stay0 hZ hC (Or.inr ⟨fun q => by unfold isN at q; omega, rfl⟩), fun h => ⟨fun h4 => ?_, fun h4 => CQ.stay0 hZ hC (Or.inr ⟨fun q => by unfold isN at q; omega, rfl⟩)⟩⟩
  obtain ⟨k, rfl⟩ : ∃ k : Nat, n = k := ⟨n.toNat, by omega⟩
  refine CM.mono (fun _ σ1 hq => ?_) (k_plan hZ hC (by omega) (by omega))
  obtain ⟨q1, -, q3, q4⟩ := hq
  refine ⟨Z, ⟨Or.inl ⟨⟨h, h4⟩, ?_⟩, rfl⟩, hZ, q3, q4⟩
  rw [Int.toNat_natCast]
  rcases q1 with ⟨w1, w2⟩ | ⟨v, w1, w2, -⟩
  · exact Or.inl ⟨w1, w2⟩
  · exact Or.inr (by rw [w2]; exact w1)
def pdV (D : Dt) (n y : Nat) (v : Int) : Prop := (planP D n = none ∧ v = -1) ∨ (planP D n ≠ none ∧ v = pldV D n y)
def aPlanned (Z : Zt) (n y v : Int) : Prop := (isN n ∧ (0 ≤ y ∧ y < n) ∧ pdV (zD Z) n.toNat y.toNat v) ∨ (¬ (isN n ∧ (0 ≤ y ∧ y < n)) ∧ v = -2)
theorem c_X10_planned {Z : Zt} {σ : Mem} {n y : Int} (hZ : GZ Z) (hC : CI Z σ) : CM mX10_planned [.inr 0, .inl n, .inl y] σ (CQ σ (nxA Z (aPlanned Z n y))) := by
  have bad : ¬ (isN n ∧ (0 ≤ y ∧ y < n)) → CQ σ (nxA Z (aPlanned Z n y)) (-2) σ := fun h => CQ.stay0 hZ hC (Or.inr ⟨h, rfl⟩)
  refine rX10_planned_0 ⟨fun h => bad (fun q => by have := q.1; unfold isN at this; omega), fun h => ⟨fun h4 => bad (fun q => by have := q.1; unfold isN at this; omega), fun h4 => ⟨fun h5 => bad (fun q => by have := q.2; omega), fun h5 => ⟨fun h6 => ?_, fun h6 => bad (fun q => by have := q.2; omega)⟩⟩⟩⟩
  obtain ⟨k, rfl⟩ : ∃ k : Nat, n = k := ⟨n.toNat, by omega⟩
  refine CM.mono (fun _ σ1 hq => ?_) (k_plan hZ hC (by omega) (by omega))
  obtain ⟨q1, -, q3, q4⟩ := hq
  refine CM.mono (fun v σ2 hq => ?_) (c_X6_toldOf (n := k) (y := y.toNat) q1 (by omega) (by omega) (fun v hv => by have := planP_pos hZ.wf (by omega) (by omega) hv; omega) (by omega))
  obtain ⟨rfl, rfl⟩ := hq
  refine ⟨Z, ⟨Or.inl ⟨⟨h, h4⟩, ⟨h5, h6⟩, ?_⟩, rfl⟩, hZ, q3, q4⟩
  rw [Int.toNat_natCast]
  cases e : planP (zD Z) k with
  | none => exact Or.inl ⟨e, rfl⟩
  | some v => exact Or.inr ⟨by rw [e]; exact (fun w => by cases w), rfl⟩
def aCount (Z : Zt) (x v : Int) : Prop := (x < 0 ∨ 4 < x) ∧ v = -2 ∨ x = 0 ∧ v = dn (zD Z) ∨ x = 1 ∧ v = dm (zD Z) ∨ x = 2 ∧ v = dwn (zD Z) ∨ x = 3 ∧ v = cntF (zK Z) 1 36 ∨ x = 4 ∧ v = cntF (zK Z) 3 36
theorem c_X10_count {Z : Zt} {σ : Mem} {x : Int} (hZ : GZ Z) (hC : CI Z σ) : CM mX10_count [.inr 0, .inl x] σ (CQ σ (nxA Z (aCount Z x))) := by
  have hd := hC.d
  refine rX10_count_0 ⟨fun h => CQ.stay0 hZ hC (Or.inl ⟨h, rfl⟩), fun h => CQ.stay0 hZ hC (Or.inr (Or.inl ⟨h, hd.1⟩)), fun h => CQ.stay0 hZ hC (Or.inr (Or.inr (Or.inl ⟨h, hd.2.1⟩))), fun h => CQ.stay0 hZ hC (Or.inr (Or.inr (Or.inr (Or.inl ⟨h, hd.2.2.2.2.2.2.2.1⟩)))), fun h => CQ.stay0 hZ hC (Or.inr (Or.inr (Or.inr (Or.inr (Or.inl ⟨h, by rw [hC.k]⟩))))), fun h => CQ.stay0 hZ hC (Or.inr (Or.inr (Or.inr (Or.inr (Or.inr ⟨h, by rw [hC.k]⟩)))))⟩
