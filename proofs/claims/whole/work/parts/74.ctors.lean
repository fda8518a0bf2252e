/-! ===== the constructors ===== -/
theorem nest_X10_11 : (RX10, 11, yX2_init) ∈ nestL := by
  unfold nestL
  exact List.mem_of_getElem? (i := 0) rfl
theorem nest_X10_18 : (RX10, 18, yX9_init) ∈ nestL := by
  unfold nestL
  exact List.mem_of_getElem? (i := 1) rfl
theorem nest_X10_73 : (RX10, 73, yX8_init) ∈ nestL := by
  unfold nestL
  exact List.mem_of_getElem? (i := 2) rfl
theorem nest_X0_11 : (RX0, 11, yX8_init) ∈ nestL := by
  unfold nestL
  exact List.mem_of_getElem? (i := 3) rfl
theorem nest_X1_11 : (RX1, 11, yX8_init) ∈ nestL := by
  unfold nestL
  exact List.mem_of_getElem? (i := 4) rfl
theorem nest_X5_11 : (RX5, 11, yX8_init) ∈ nestL := by
  unfold nestL
  exact List.mem_of_getElem? (i := 5) rfl
theorem nest_X6_11 : (RX6, 11, yX8_init) ∈ nestL := by
  unfold nestL
  exact List.mem_of_getElem? (i := 6) rfl
set_option maxRecDepth 100000 in
theorem b_X7_init {k N : Nat} {x : Int} {σ : Mem} (hk : isRow k N) (ex : x = (N : Int)) : CB mX7_init [.inr k, .inl x] (k + 1) (k + 2) σ (fun σ1 => σ1 = mu (zr (k + 1) σ) k 0 1) := by
  refine CB_of_GW (by decide +kernel) ⟨rfl, rfl⟩ (Nat.le_of_ble_eq_true rfl) rfl ?_
  show GW none mX7_init (k + 1) (k + 2) 0 [some (.inr k), some (.inl x)] [] (k + 1) σ _
  refine gb_aload_n dX7_init_0 rfl rfl ?_
  refine gb_obj obX7 (Nat.le_of_ble_eq_true rfl) (Nat.le_of_ble_eq_true rfl) dX7_init_1 ?_
  refine gb_aload_n dX7_init_4 rfl rfl ?_
  refine gb_iload_n dX7_init_5 rfl rfl ?_
  refine gb_if_ge (tgt := 13) dX7_init_6 (by decide) (by omega) ?_
  refine gb_iload_n dX7_init_13 rfl rfl ?_
  refine gb_newI ex ar_i hk.2.2.2.2 (by omega) (by omega) hk.2.1 dX7_init_14 ?_
  refine gb_putR frX7_7 rfl (by omega) (by omega) hk.2.2.1 (by decide) hk.2.2.2.1 dX7_init_16 ?_
  exact gb_return rfl rfl dX7_init_19 rfl rfl
def fX8 (k : Nat) (σ : Mem) : Mem := mu (mu (mu (zr (k + 2) (zr (k + 1) σ)) (k + 1) 0 1) k 0 1) k 1 0
set_option maxRecDepth 100000 in
theorem b_X8_init {k : Nat} {σ : Mem} (hk : isSeats k) : CB mX8_init [.inr k] (k + 1) (k + 3) σ (fun σ1 => σ1 = fX8 k σ) := by
  refine CB_of_GW (by decide +kernel) ⟨rfl, rfl⟩ (Nat.le_of_ble_eq_true rfl) rfl ?_
  show GW none mX8_init (k + 1) (k + 3) 0 [some (.inr k)] [] (k + 1) σ _
  refine gb_aload_n dX8_init_0 rfl rfl ?_
  refine gb_obj obX8 (Nat.le_of_ble_eq_true rfl) (Nat.le_of_ble_eq_true rfl) dX8_init_1 ?_
  refine gb_aload_n dX8_init_4 rfl rfl ?_
  refine gb_new nwX8_9 hk.2.2.2.2.2.2.1 (fun j hj => by rw [show j = 0 by omega, hk.2.2.2.2.2.2.2.1]; rfl) (by omega) (by omega) hk.2.2.2.2.1 dX8_init_5 ?_
  refine gb_dup dX8_init_8 ?_
  refine gb_iconst dX8_init_9 (by decide) ?_
  refine gb_ctor (as := [.inl 5]) (rest := [.inr (k + 1), .inr k]) oiX7_init (Or.inl miX8_11) rfl ⟨Nat.le_of_ble_eq_true rfl, Nat.le_of_ble_eq_true rfl⟩ (Nat.le_of_ble_eq_true rfl) rfl (by omega) (by omega) (by omega) dX8_init_10 (b_X7_init (N := 5) hk.2.2.2.2 rfl) (fun σ1 e9 => ?_)
  subst e9
  refine gb_putR frX8_14 rfl (by omega) (by omega) hk.2.1 (by decide) hk.2.2.1 dX8_init_13 ?_
  refine gb_aload_n dX8_init_16 rfl rfl ?_
  refine gb_iconst dX8_init_17 (by decide) ?_
  refine gb_putI fpX8_20 (by omega) hk.2.1 (by decide) hk.2.2.2.1 (Or.inl rfl) dX8_init_18 ?_
  exact gb_return rfl rfl dX8_init_21 rfl rfl
def fX2 (σ : Mem) : Mem := mu (mu (mu (mu (mu (zr 13 (zr 12 (mu (mu (zr 11 (zr 10 (mu (mu (zr 9 (zr 8 (mu (mu (zr 7 (zr 6 (mu (mu (zr 5 (zr 4 (mu (mu (zr 3 (zr 2 σ)) 2 0 1) 1 0 1))) 4 0 1) 1 1 1))) 6 0 1) 1 2 1))) 8 0 1) 1 3 1))) 10 0 1) 1 4 1))) 12 0 1) 1 5 1) 1 6 0) 1 7 0) 1 8 41
set_option maxRecDepth 100000 in
theorem b_X2_init {σ : Mem} : CB mX2_init [.inr 1] 2 14 σ (fun σ1 => σ1 = fX2 σ) := by
  refine CB_of_GW (by decide +kernel) ⟨rfl, rfl⟩ (Nat.le_of_ble_eq_true rfl) rfl ?_
  show GW none mX2_init 2 14 0 [some (.inr 1)] [] 2 σ _
  refine gb_aload_n dX2_init_0 rfl rfl ?_
  refine gb_obj obX2 (Nat.le_of_ble_eq_true rfl) (Nat.le_of_ble_eq_true rfl) dX2_init_1 ?_
  refine gb_aload_n dX2_init_4 rfl rfl ?_
  refine gb_new nwX2_9 rfl (by decide +kernel) (by decide) (by decide) (by decide) dX2_init_5 ?_
  refine gb_dup dX2_init_8 ?_
  refine gb_bipush dX2_init_9 (by decide) (by decide) ?_
  refine gb_ctor (as := [.inl 36]) (rest := [.inr 2, .inr 1]) oiX7_init (Or.inl miX2_11) rfl ⟨Nat.le_of_ble_eq_true rfl, Nat.le_of_ble_eq_true rfl⟩ (Nat.le_of_ble_eq_true rfl) rfl (by decide) (by decide) (by decide) dX2_init_11 (b_X7_init (N := 36) ⟨by decide, by decide, rfl, rfl, rfl⟩ rfl) (fun σ1 e9 => ?_)
  subst e9
  refine gb_putR frX2_14 rfl (by decide) (by decide) rfl (by decide) rfl dX2_init_14 ?_
  refine gb_aload_n dX2_init_17 rfl rfl ?_
  refine gb_new nwX2_9 rfl (by decide +kernel) (by decide) (by decide) (by decide) dX2_init_18 ?_
  refine gb_dup dX2_init_21 ?_
  refine gb_bipush dX2_init_22 (by decide) (by decide) ?_
  refine gb_ctor (as := [.inl 6]) (rest := [.inr 4, .inr 1]) oiX7_init (Or.inl miX2_11) rfl ⟨Nat.le_of_ble_eq_true rfl, Nat.le_of_ble_eq_true rfl⟩ (Nat.le_of_ble_eq_true rfl) rfl (by decide) (by decide) (by decide) dX2_init_24 (b_X7_init (N := 6) ⟨by decide, by decide, rfl, rfl, rfl⟩ rfl) (fun σ1 e9 => ?_)
  subst e9
  refine gb_putR frX2_20 rfl (by decide) (by decide) rfl (by decide) rfl dX2_init_27 ?_
  refine gb_aload_n dX2_init_30 rfl rfl ?_
  refine gb_new nwX2_9 rfl (by decide +kernel) (by decide) (by decide) (by decide) dX2_init_31 ?_
  refine gb_dup dX2_init_34 ?_
  refine gb_bipush dX2_init_35 (by decide) (by decide) ?_
  refine gb_ctor (as := [.inl 36]) (rest := [.inr 6, .inr 1]) oiX7_init (Or.inl miX2_11) rfl ⟨Nat.le_of_ble_eq_true rfl, Nat.le_of_ble_eq_true rfl⟩ (Nat.le_of_ble_eq_true rfl) rfl (by decide) (by decide) (by decide) dX2_init_37 (b_X7_init (N := 36) ⟨by decide, by decide, rfl, rfl, rfl⟩ rfl) (fun σ1 e9 => ?_)
  subst e9
  refine gb_putR frX2_23 rfl (by decide) (by decide) rfl (by decide) rfl dX2_init_40 ?_
  refine gb_aload_n dX2_init_43 rfl rfl ?_
  refine gb_new nwX2_9 rfl (by decide +kernel) (by decide) (by decide) (by decide) dX2_init_44 ?_
  refine gb_dup dX2_init_47 ?_
  refine gb_bipush dX2_init_48 (by decide) (by decide) ?_
  refine gb_ctor (as := [.inl 6]) (rest := [.inr 8, .inr 1]) oiX7_init (Or.inl miX2_11) rfl ⟨Nat.le_of_ble_eq_true rfl, Nat.le_of_ble_eq_true rfl⟩ (Nat.le_of_ble_eq_true rfl) rfl (by decide) (by decide) (by decide) dX2_init_50 (b_X7_init (N := 6) ⟨by decide, by decide, rfl, rfl, rfl⟩ rfl) (fun σ1 e9 => ?_)
  subst e9
  refine gb_putR frX2_26 rfl (by decide) (by decide) rfl (by decide) rfl dX2_init_53 ?_
  refine gb_aload_n dX2_init_56 rfl rfl ?_
  refine gb_new nwX2_9 rfl (by decide +kernel) (by decide) (by decide) (by decide) dX2_init_57 ?_
  refine gb_dup dX2_init_60 ?_
  refine gb_bipush dX2_init_61 (by decide) (by decide) ?_
  refine gb_ctor (as := [.inl 36]) (rest := [.inr 10, .inr 1]) oiX7_init (Or.inl miX2_11) rfl ⟨Nat.le_of_ble_eq_true rfl, Nat.le_of_ble_eq_true rfl⟩ (Nat.le_of_ble_eq_true rfl) rfl (by decide) (by decide) (by decide) dX2_init_63 (b_X7_init (N := 36) ⟨by decide, by decide, rfl, rfl, rfl⟩ rfl) (fun σ1 e9 => ?_)
  subst e9
  refine gb_putR frX2_29 rfl (by decide) (by decide) rfl (by decide) rfl dX2_init_66 ?_
  refine gb_aload_n dX2_init_69 rfl rfl ?_
  refine gb_new nwX2_9 rfl (by decide +kernel) (by decide) (by decide) (by decide) dX2_init_70 ?_
  refine gb_dup dX2_init_73 ?_
  refine gb_bipush dX2_init_74 (by decide) (by decide) ?_
  refine gb_ctor (as := [.inl 36]) (rest := [.inr 12, .inr 1]) oiX7_init (Or.inl miX2_11) rfl ⟨Nat.le_of_ble_eq_true rfl, Nat.le_of_ble_eq_true rfl⟩ (Nat.le_of_ble_eq_true rfl) rfl (by decide) (by decide) (by decide) dX2_init_76 (b_X7_init (N := 36) ⟨by decide, by decide, rfl, rfl, rfl⟩ rfl) (fun σ1 e9 => ?_)
  subst e9
  refine gb_putR frX2_32 rfl (by decide) (by decide) rfl (by decide) rfl dX2_init_79 ?_
  refine gb_aload_n dX2_init_82 rfl rfl ?_
  refine gb_iconst dX2_init_83 (by decide) ?_
  refine gb_putI fpX2_35 (by decide) rfl (by decide) rfl (Or.inl rfl) dX2_init_84 ?_
  refine gb_aload_n dX2_init_87 rfl rfl ?_
  refine gb_iconst dX2_init_88 (by decide) ?_
  refine gb_putI fpX2_39 (by decide) rfl (by decide) rfl (Or.inl rfl) dX2_init_89 ?_
  refine gb_aload_n dX2_init_92 rfl rfl ?_
  refine gb_bipush dX2_init_93 (by decide) (by decide) ?_
  refine gb_putI fpX2_42 (by decide) rfl (by decide) rfl (Or.inl rfl) dX2_init_95 ?_
  exact gb_return rfl rfl dX2_init_98 rfl rfl
def fX9 (σ : Mem) : Mem := mu (mu (mu (mu (zr 26 (zr 25 (mu (mu (zr 24 (zr 23 (mu (mu (zr 22 (zr 21 (mu (mu (zr 20 (zr 19 (mu (mu (zr 18 (zr 17 (mu (mu (zr 16 (zr 15 σ)) 15 0 1) 14 0 1))) 17 0 1) 14 1 1))) 19 0 1) 14 2 1))) 21 0 1) 14 3 1))) 23 0 1) 14 4 1))) 25 0 1) 14 5 1) 14 6 0) 14 7 0
set_option maxRecDepth 100000 in
theorem b_X9_init {σ : Mem} : CB mX9_init [.inr 14] 15 27 σ (fun σ1 => σ1 = fX9 σ) := by
  refine CB_of_GW (by decide +kernel) ⟨rfl, rfl⟩ (Nat.le_of_ble_eq_true rfl) rfl ?_
  show GW none mX9_init 15 27 0 [some (.inr 14)] [] 15 σ _
  refine gb_aload_n dX9_init_0 rfl rfl ?_
  refine gb_obj obX9 (Nat.le_of_ble_eq_true rfl) (Nat.le_of_ble_eq_true rfl) dX9_init_1 ?_
  refine gb_aload_n dX9_init_4 rfl rfl ?_
  refine gb_new nwX9_9 rfl (by decide +kernel) (by decide) (by decide) (by decide) dX9_init_5 ?_
  refine gb_dup dX9_init_8 ?_
  refine gb_bipush dX9_init_9 (by decide) (by decide) ?_
  refine gb_ctor (as := [.inl 100]) (rest := [.inr 15, .inr 14]) oiX7_init (Or.inl miX9_11) rfl ⟨Nat.le_of_ble_eq_true rfl, Nat.le_of_ble_eq_true rfl⟩ (Nat.le_of_ble_eq_true rfl) rfl (by decide) (by decide) (by decide) dX9_init_11 (b_X7_init (N := 100) ⟨by decide, by decide, rfl, rfl, rfl⟩ rfl) (fun σ1 e9 => ?_)
  subst e9
  refine gb_putR frX9_14 rfl (by decide) (by decide) rfl (by decide) rfl dX9_init_14 ?_
  refine gb_aload_n dX9_init_17 rfl rfl ?_
  refine gb_new nwX9_9 rfl (by decide +kernel) (by decide) (by decide) (by decide) dX9_init_18 ?_
  refine gb_dup dX9_init_21 ?_
  refine gb_iconst dX9_init_22 (by decide) ?_
  refine gb_ctor (as := [.inl 5]) (rest := [.inr 17, .inr 14]) oiX7_init (Or.inl miX9_11) rfl ⟨Nat.le_of_ble_eq_true rfl, Nat.le_of_ble_eq_true rfl⟩ (Nat.le_of_ble_eq_true rfl) rfl (by decide) (by decide) (by decide) dX9_init_23 (b_X7_init (N := 5) ⟨by decide, by decide, rfl, rfl, rfl⟩ rfl) (fun σ1 e9 => ?_)
  subst e9
  refine gb_putR frX9_20 rfl (by decide) (by decide) rfl (by decide) rfl dX9_init_26 ?_
  refine gb_aload_n dX9_init_29 rfl rfl ?_
  refine gb_new nwX9_9 rfl (by decide +kernel) (by decide) (by decide) (by decide) dX9_init_30 ?_
  refine gb_dup dX9_init_33 ?_
  refine gb_bipush dX9_init_34 (by decide) (by decide) ?_
  refine gb_ctor (as := [.inl 6]) (rest := [.inr 19, .inr 14]) oiX7_init (Or.inl miX9_11) rfl ⟨Nat.le_of_ble_eq_true rfl, Nat.le_of_ble_eq_true rfl⟩ (Nat.le_of_ble_eq_true rfl) rfl (by decide) (by decide) (by decide) dX9_init_36 (b_X7_init (N := 6) ⟨by decide, by decide, rfl, rfl, rfl⟩ rfl) (fun σ1 e9 => ?_)
  subst e9
  refine gb_putR frX9_23 rfl (by decide) (by decide) rfl (by decide) rfl dX9_init_39 ?_
  refine gb_aload_n dX9_init_42 rfl rfl ?_
  refine gb_new nwX9_9 rfl (by decide +kernel) (by decide) (by decide) (by decide) dX9_init_43 ?_
  refine gb_dup dX9_init_46 ?_
  refine gb_bipush dX9_init_47 (by decide) (by decide) ?_
  refine gb_ctor (as := [.inl 6]) (rest := [.inr 21, .inr 14]) oiX7_init (Or.inl miX9_11) rfl ⟨Nat.le_of_ble_eq_true rfl, Nat.le_of_ble_eq_true rfl⟩ (Nat.le_of_ble_eq_true rfl) rfl (by decide) (by decide) (by decide) dX9_init_49 (b_X7_init (N := 6) ⟨by decide, by decide, rfl, rfl, rfl⟩ rfl) (fun σ1 e9 => ?_)
  subst e9
  refine gb_putR frX9_26 rfl (by decide) (by decide) rfl (by decide) rfl dX9_init_52 ?_
  refine gb_aload_n dX9_init_55 rfl rfl ?_
  refine gb_new nwX9_9 rfl (by decide +kernel) (by decide) (by decide) (by decide) dX9_init_56 ?_
  refine gb_dup dX9_init_59 ?_
  refine gb_bipush dX9_init_60 (by decide) (by decide) ?_
  refine gb_ctor (as := [.inl 6]) (rest := [.inr 23, .inr 14]) oiX7_init (Or.inl miX9_11) rfl ⟨Nat.le_of_ble_eq_true rfl, Nat.le_of_ble_eq_true rfl⟩ (Nat.le_of_ble_eq_true rfl) rfl (by decide) (by decide) (by decide) dX9_init_62 (b_X7_init (N := 6) ⟨by decide, by decide, rfl, rfl, rfl⟩ rfl) (fun σ1 e9 => ?_)
  subst e9
  refine gb_putR frX9_29 rfl (by decide) (by decide) rfl (by decide) rfl dX9_init_65 ?_
  refine gb_aload_n dX9_init_68 rfl rfl ?_
  refine gb_new nwX9_9 rfl (by decide +kernel) (by decide) (by decide) (by decide) dX9_init_69 ?_
  refine gb_dup dX9_init_72 ?_
  refine gb_bipush dX9_init_73 (by decide) (by decide) ?_
  refine gb_ctor (as := [.inl 6]) (rest := [.inr 25, .inr 14]) oiX7_init (Or.inl miX9_11) rfl ⟨Nat.le_of_ble_eq_true rfl, Nat.le_of_ble_eq_true rfl⟩ (Nat.le_of_ble_eq_true rfl) rfl (by decide) (by decide) (by decide) dX9_init_75 (b_X7_init (N := 6) ⟨by decide, by decide, rfl, rfl, rfl⟩ rfl) (fun σ1 e9 => ?_)
  subst e9
  refine gb_putR frX9_32 rfl (by decide) (by decide) rfl (by decide) rfl dX9_init_78 ?_
  refine gb_aload_n dX9_init_81 rfl rfl ?_
  refine gb_iconst dX9_init_82 (by decide) ?_
  refine gb_putI fpX9_35 (by decide) rfl (by decide) rfl (Or.inl rfl) dX9_init_83 ?_
  refine gb_aload_n dX9_init_86 rfl rfl ?_
  refine gb_iconst dX9_init_87 (by decide) ?_
  refine gb_putI fpX9_39 (by decide) rfl (by decide) rfl (Or.inl rfl) dX9_init_88 ?_
  exact gb_return rfl rfl dX9_init_91 rfl rfl
def fX3 (σ : Mem) : Mem := mu (mu σ 27 0 1) 27 1 1
set_option maxRecDepth 100000 in
theorem b_X3_init {σ : Mem} : CB mX3_init [.inr 27, .inr 1, .inr 14] 28 28 σ (fun σ1 => σ1 = fX3 σ) := by
  refine CB_of_GW (by decide +kernel) ⟨rfl, rfl⟩ (Nat.le_of_ble_eq_true rfl) rfl ?_
  show GW none mX3_init 28 28 0 [some (.inr 27), some (.inr 1), some (.inr 14)] [] 28 σ _
  refine gb_aload_n dX3_init_0 rfl rfl ?_
  refine gb_obj obX3 (Nat.le_of_ble_eq_true rfl) (Nat.le_of_ble_eq_true rfl) dX3_init_1 ?_
  refine gb_aload_n dX3_init_4 rfl rfl ?_
  refine gb_aload_n dX3_init_5 rfl rfl ?_
  refine gb_putR frX3_9 rfl (by decide) (by decide) rfl (by decide) rfl dX3_init_6 ?_
  refine gb_aload_n dX3_init_9 rfl rfl ?_
  refine gb_aload_n dX3_init_10 rfl rfl ?_
  refine gb_putR frX3_15 rfl (by decide) (by decide) rfl (by decide) rfl dX3_init_11 ?_
  exact gb_return rfl rfl dX3_init_14 rfl rfl
def fX4 (σ : Mem) : Mem := mu (mu (mu (mu (zr 32 (zr 31 (mu (mu (zr 30 (zr 29 σ)) 29 0 1) 28 2 1))) 31 0 1) 28 3 1) 28 0 1) 28 1 1
set_option maxRecDepth 100000 in
theorem b_X4_init {σ : Mem} : CB mX4_init [.inr 28, .inr 1, .inr 14] 29 33 σ (fun σ1 => σ1 = fX4 σ) := by
  refine CB_of_GW (by decide +kernel) ⟨rfl, rfl⟩ (Nat.le_of_ble_eq_true rfl) rfl ?_
  show GW none mX4_init 29 33 0 [some (.inr 28), some (.inr 1), some (.inr 14)] [] 29 σ _
  refine gb_aload_n dX4_init_0 rfl rfl ?_
  refine gb_obj obX4 (Nat.le_of_ble_eq_true rfl) (Nat.le_of_ble_eq_true rfl) dX4_init_1 ?_
  refine gb_aload_n dX4_init_4 rfl rfl ?_
  refine gb_new nwX4_9 rfl (by decide +kernel) (by decide) (by decide) (by decide) dX4_init_5 ?_
  refine gb_dup dX4_init_8 ?_
  refine gb_bipush dX4_init_9 (by decide) (by decide) ?_
  refine gb_ctor (as := [.inl 25]) (rest := [.inr 29, .inr 28]) oiX7_init (Or.inl miX4_11) rfl ⟨Nat.le_of_ble_eq_true rfl, Nat.le_of_ble_eq_true rfl⟩ (Nat.le_of_ble_eq_true rfl) rfl (by decide) (by decide) (by decide) dX4_init_11 (b_X7_init (N := 25) ⟨by decide, by decide, rfl, rfl, rfl⟩ rfl) (fun σ1 e9 => ?_)
  subst e9
  refine gb_putR frX4_14 rfl (by decide) (by decide) rfl (by decide) rfl dX4_init_14 ?_
  refine gb_aload_n dX4_init_17 rfl rfl ?_
  refine gb_new nwX4_9 rfl (by decide +kernel) (by decide) (by decide) (by decide) dX4_init_18 ?_
  refine gb_dup dX4_init_21 ?_
  refine gb_bipush dX4_init_22 (by decide) (by decide) ?_
  refine gb_ctor (as := [.inl 36]) (rest := [.inr 31, .inr 28]) oiX7_init (Or.inl miX4_11) rfl ⟨Nat.le_of_ble_eq_true rfl, Nat.le_of_ble_eq_true rfl⟩ (Nat.le_of_ble_eq_true rfl) rfl (by decide) (by decide) (by decide) dX4_init_24 (b_X7_init (N := 36) ⟨by decide, by decide, rfl, rfl, rfl⟩ rfl) (fun σ1 e9 => ?_)
  subst e9
  refine gb_putR frX4_20 rfl (by decide) (by decide) rfl (by decide) rfl dX4_init_27 ?_
  refine gb_aload_n dX4_init_30 rfl rfl ?_
  refine gb_aload_n dX4_init_31 rfl rfl ?_
  refine gb_putR frX4_23 rfl (by decide) (by decide) rfl (by decide) rfl dX4_init_32 ?_
  refine gb_aload_n dX4_init_35 rfl rfl ?_
  refine gb_aload_n dX4_init_36 rfl rfl ?_
  refine gb_putR frX4_27 rfl (by decide) (by decide) rfl (by decide) rfl dX4_init_37 ?_
  exact gb_return rfl rfl dX4_init_40 rfl rfl
def fX0 (σ : Mem) : Mem := mu (mu (mu (mu (mu (mu (fX8 37 (zr 37 (mu (fX8 34 (zr 34 σ)) 33 3 1))) 33 4 1) 33 5 (-1)) 33 6 0) 33 0 1) 33 1 1) 33 2 1
set_option maxRecDepth 100000 in
theorem b_X0_init {σ : Mem} : CB mX0_init [.inr 33, .inr 1, .inr 14, .inr 27] 34 40 σ (fun σ1 => σ1 = fX0 σ) := by
  refine CB_of_GW (by decide +kernel) ⟨rfl, rfl⟩ (Nat.le_of_ble_eq_true rfl) rfl ?_
  show GW none mX0_init 34 40 0 [some (.inr 33), some (.inr 1), some (.inr 14), some (.inr 27)] [] 34 σ _
  refine gb_aload_n dX0_init_0 rfl rfl ?_
  refine gb_obj obX0 (Nat.le_of_ble_eq_true rfl) (Nat.le_of_ble_eq_true rfl) dX0_init_1 ?_
  refine gb_aload_n dX0_init_4 rfl rfl ?_
  refine gb_new nwX0_9 rfl (by decide +kernel) (by decide) (by decide) (by decide) dX0_init_5 ?_
  refine gb_dup dX0_init_8 ?_
  refine gb_ctor (as := []) (rest := [.inr 34, .inr 33]) oiX8_init (Or.inr nest_X0_11) rfl ⟨Nat.le_of_ble_eq_true rfl, Nat.le_of_ble_eq_true rfl⟩ (Nat.le_of_ble_eq_true rfl) rfl (by decide) (by decide) (by decide) dX0_init_9 (b_X8_init ⟨by decide, rfl, rfl, rfl, by decide, by decide, rfl, rfl, rfl⟩) (fun σ1 e9 => ?_)
  subst e9
  refine gb_putR frX0_12 rfl (by decide) (by decide) rfl (by decide) rfl dX0_init_12 ?_
  refine gb_aload_n dX0_init_15 rfl rfl ?_
  refine gb_new nwX0_9 rfl (by decide +kernel) (by decide) (by decide) (by decide) dX0_init_16 ?_
  refine gb_dup dX0_init_19 ?_
  refine gb_ctor (as := []) (rest := [.inr 37, .inr 33]) oiX8_init (Or.inr nest_X0_11) rfl ⟨Nat.le_of_ble_eq_true rfl, Nat.le_of_ble_eq_true rfl⟩ (Nat.le_of_ble_eq_true rfl) rfl (by decide) (by decide) (by decide) dX0_init_20 (b_X8_init ⟨by decide, rfl, rfl, rfl, by decide, by decide, rfl, rfl, rfl⟩) (fun σ1 e9 => ?_)
  subst e9
  refine gb_putR frX0_18 rfl (by decide) (by decide) rfl (by decide) rfl dX0_init_23 ?_
  refine gb_aload_n dX0_init_26 rfl rfl ?_
  refine gb_iconst dX0_init_27 (by decide) ?_
  refine gb_putI fpX0_21 (by decide) rfl (by decide) rfl (Or.inl rfl) dX0_init_28 ?_
  refine gb_aload_n dX0_init_31 rfl rfl ?_
  refine gb_iconst dX0_init_32 (by decide) ?_
  refine gb_putI fpX0_25 (by decide) rfl (by decide) rfl (Or.inl rfl) dX0_init_33 ?_
  refine gb_aload_n dX0_init_36 rfl rfl ?_
  refine gb_aload_n dX0_init_37 rfl rfl ?_
  refine gb_putR frX0_28 rfl (by decide) (by decide) rfl (by decide) rfl dX0_init_38 ?_
  refine gb_aload_n dX0_init_41 rfl rfl ?_
  refine gb_aload_n dX0_init_42 rfl rfl ?_
  refine gb_putR frX0_32 rfl (by decide) (by decide) rfl (by decide) rfl dX0_init_43 ?_
  refine gb_aload_n dX0_init_46 rfl rfl ?_
  refine gb_aload_n dX0_init_47 rfl rfl ?_
  refine gb_putR frX0_36 rfl (by decide) (by decide) rfl (by decide) rfl dX0_init_48 ?_
  exact gb_return rfl rfl dX0_init_51 rfl rfl
def fX1 (σ : Mem) : Mem := mu (mu (mu (mu (mu (fX8 44 (zr 44 (mu (fX8 41 (zr 41 σ)) 40 2 1))) 40 3 1) 40 4 (-1)) 40 5 0) 40 0 1) 40 1 1
set_option maxRecDepth 100000 in
theorem b_X1_init {σ : Mem} : CB mX1_init [.inr 40, .inr 1, .inr 27] 41 47 σ (fun σ1 => σ1 = fX1 σ) := by
  refine CB_of_GW (by decide +kernel) ⟨rfl, rfl⟩ (Nat.le_of_ble_eq_true rfl) rfl ?_
  show GW none mX1_init 41 47 0 [some (.inr 40), some (.inr 1), some (.inr 27)] [] 41 σ _
  refine gb_aload_n dX1_init_0 rfl rfl ?_
  refine gb_obj obX1 (Nat.le_of_ble_eq_true rfl) (Nat.le_of_ble_eq_true rfl) dX1_init_1 ?_
  refine gb_aload_n dX1_init_4 rfl rfl ?_
  refine gb_new nwX1_9 rfl (by decide +kernel) (by decide) (by decide) (by decide) dX1_init_5 ?_
  refine gb_dup dX1_init_8 ?_
  refine gb_ctor (as := []) (rest := [.inr 41, .inr 40]) oiX8_init (Or.inr nest_X1_11) rfl ⟨Nat.le_of_ble_eq_true rfl, Nat.le_of_ble_eq_true rfl⟩ (Nat.le_of_ble_eq_true rfl) rfl (by decide) (by decide) (by decide) dX1_init_9 (b_X8_init ⟨by decide, rfl, rfl, rfl, by decide, by decide, rfl, rfl, rfl⟩) (fun σ1 e9 => ?_)
  subst e9
  refine gb_putR frX1_12 rfl (by decide) (by decide) rfl (by decide) rfl dX1_init_12 ?_
  refine gb_aload_n dX1_init_15 rfl rfl ?_
  refine gb_new nwX1_9 rfl (by decide +kernel) (by decide) (by decide) (by decide) dX1_init_16 ?_
  refine gb_dup dX1_init_19 ?_
  refine gb_ctor (as := []) (rest := [.inr 44, .inr 40]) oiX8_init (Or.inr nest_X1_11) rfl ⟨Nat.le_of_ble_eq_true rfl, Nat.le_of_ble_eq_true rfl⟩ (Nat.le_of_ble_eq_true rfl) rfl (by decide) (by decide) (by decide) dX1_init_20 (b_X8_init ⟨by decide, rfl, rfl, rfl, by decide, by decide, rfl, rfl, rfl⟩) (fun σ1 e9 => ?_)
  subst e9
  refine gb_putR frX1_18 rfl (by decide) (by decide) rfl (by decide) rfl dX1_init_23 ?_
  refine gb_aload_n dX1_init_26 rfl rfl ?_
  refine gb_iconst dX1_init_27 (by decide) ?_
  refine gb_putI fpX1_21 (by decide) rfl (by decide) rfl (Or.inl rfl) dX1_init_28 ?_
  refine gb_aload_n dX1_init_31 rfl rfl ?_
  refine gb_iconst dX1_init_32 (by decide) ?_
  refine gb_putI fpX1_25 (by decide) rfl (by decide) rfl (Or.inr ⟨rfl, by decide⟩) dX1_init_33 ?_
  refine gb_aload_n dX1_init_36 rfl rfl ?_
  refine gb_aload_n dX1_init_37 rfl rfl ?_
  refine gb_putR frX1_29 rfl (by decide) (by decide) rfl (by decide) rfl dX1_init_38 ?_
  refine gb_aload_n dX1_init_41 rfl rfl ?_
  refine gb_aload_n dX1_init_42 rfl rfl ?_
  refine gb_putR frX1_33 rfl (by decide) (by decide) rfl (by decide) rfl dX1_init_43 ?_
  exact gb_return rfl rfl dX1_init_46 rfl rfl
def fX5 (σ : Mem) : Mem := mu (mu (mu (fX8 48 (zr 48 σ)) 47 2 1) 47 0 1) 47 1 1
set_option maxRecDepth 100000 in
theorem b_X5_init {σ : Mem} : CB mX5_init [.inr 47, .inr 1, .inr 14] 48 51 σ (fun σ1 => σ1 = fX5 σ) := by
  refine CB_of_GW (by decide +kernel) ⟨rfl, rfl⟩ (Nat.le_of_ble_eq_true rfl) rfl ?_
  show GW none mX5_init 48 51 0 [some (.inr 47), some (.inr 1), some (.inr 14)] [] 48 σ _
  refine gb_aload_n dX5_init_0 rfl rfl ?_
  refine gb_obj obX5 (Nat.le_of_ble_eq_true rfl) (Nat.le_of_ble_eq_true rfl) dX5_init_1 ?_
  refine gb_aload_n dX5_init_4 rfl rfl ?_
  refine gb_new nwX5_9 rfl (by decide +kernel) (by decide) (by decide) (by decide) dX5_init_5 ?_
  refine gb_dup dX5_init_8 ?_
  refine gb_ctor (as := []) (rest := [.inr 48, .inr 47]) oiX8_init (Or.inr nest_X5_11) rfl ⟨Nat.le_of_ble_eq_true rfl, Nat.le_of_ble_eq_true rfl⟩ (Nat.le_of_ble_eq_true rfl) rfl (by decide) (by decide) (by decide) dX5_init_9 (b_X8_init ⟨by decide, rfl, rfl, rfl, by decide, by decide, rfl, rfl, rfl⟩) (fun σ1 e9 => ?_)
  subst e9
  refine gb_putR frX5_12 rfl (by decide) (by decide) rfl (by decide) rfl dX5_init_12 ?_
  refine gb_aload_n dX5_init_15 rfl rfl ?_
  refine gb_aload_n dX5_init_16 rfl rfl ?_
  refine gb_putR frX5_18 rfl (by decide) (by decide) rfl (by decide) rfl dX5_init_17 ?_
  refine gb_aload_n dX5_init_20 rfl rfl ?_
  refine gb_aload_n dX5_init_21 rfl rfl ?_
  refine gb_putR frX5_22 rfl (by decide) (by decide) rfl (by decide) rfl dX5_init_22 ?_
  exact gb_return rfl rfl dX5_init_25 rfl rfl
def fX6 (σ : Mem) : Mem := mu (mu (mu (mu (mu (mu (mu (zr 66 (zr 65 (mu (mu (zr 64 (zr 63 (mu (mu (zr 62 (zr 61 (mu (fX8 58 (zr 58 (mu (fX8 55 (zr 55 (mu (fX8 52 (zr 52 σ)) 51 3 1))) 51 4 1))) 51 5 1))) 61 0 1) 51 6 1))) 63 0 1) 51 7 1))) 65 0 1) 51 8 1) 51 9 (-1)) 51 10 0) 51 0 1) 51 1 1) 51 2 1
set_option maxRecDepth 100000 in
theorem b_X6_init {σ : Mem} : CB mX6_init [.inr 51, .inr 1, .inr 14, .inr 27] 52 67 σ (fun σ1 => σ1 = fX6 σ) := by
  refine CB_of_GW (by decide +kernel) ⟨rfl, rfl⟩ (Nat.le_of_ble_eq_true rfl) rfl ?_
  show GW none mX6_init 52 67 0 [some (.inr 51), some (.inr 1), some (.inr 14), some (.inr 27)] [] 52 σ _
  refine gb_aload_n dX6_init_0 rfl rfl ?_
  refine gb_obj obX6 (Nat.le_of_ble_eq_true rfl) (Nat.le_of_ble_eq_true rfl) dX6_init_1 ?_
  refine gb_aload_n dX6_init_4 rfl rfl ?_
  refine gb_new nwX6_9 rfl (by decide +kernel) (by decide) (by decide) (by decide) dX6_init_5 ?_
  refine gb_dup dX6_init_8 ?_
  refine gb_ctor (as := []) (rest := [.inr 52, .inr 51]) oiX8_init (Or.inr nest_X6_11) rfl ⟨Nat.le_of_ble_eq_true rfl, Nat.le_of_ble_eq_true rfl⟩ (Nat.le_of_ble_eq_true rfl) rfl (by decide) (by decide) (by decide) dX6_init_9 (b_X8_init ⟨by decide, rfl, rfl, rfl, by decide, by decide, rfl, rfl, rfl⟩) (fun σ1 e9 => ?_)
  subst e9
  refine gb_putR frX6_12 rfl (by decide) (by decide) rfl (by decide) rfl dX6_init_12 ?_
  refine gb_aload_n dX6_init_15 rfl rfl ?_
  refine gb_new nwX6_9 rfl (by decide +kernel) (by decide) (by decide) (by decide) dX6_init_16 ?_
  refine gb_dup dX6_init_19 ?_
  refine gb_ctor (as := []) (rest := [.inr 55, .inr 51]) oiX8_init (Or.inr nest_X6_11) rfl ⟨Nat.le_of_ble_eq_true rfl, Nat.le_of_ble_eq_true rfl⟩ (Nat.le_of_ble_eq_true rfl) rfl (by decide) (by decide) (by decide) dX6_init_20 (b_X8_init ⟨by decide, rfl, rfl, rfl, by decide, by decide, rfl, rfl, rfl⟩) (fun σ1 e9 => ?_)
  subst e9
  refine gb_putR frX6_18 rfl (by decide) (by decide) rfl (by decide) rfl dX6_init_23 ?_
  refine gb_aload_n dX6_init_26 rfl rfl ?_
  refine gb_new nwX6_9 rfl (by decide +kernel) (by decide) (by decide) (by decide) dX6_init_27 ?_
  refine gb_dup dX6_init_30 ?_
  refine gb_ctor (as := []) (rest := [.inr 58, .inr 51]) oiX8_init (Or.inr nest_X6_11) rfl ⟨Nat.le_of_ble_eq_true rfl, Nat.le_of_ble_eq_true rfl⟩ (Nat.le_of_ble_eq_true rfl) rfl (by decide) (by decide) (by decide) dX6_init_31 (b_X8_init ⟨by decide, rfl, rfl, rfl, by decide, by decide, rfl, rfl, rfl⟩) (fun σ1 e9 => ?_)
  subst e9
  refine gb_putR frX6_21 rfl (by decide) (by decide) rfl (by decide) rfl dX6_init_34 ?_
  refine gb_aload_n dX6_init_37 rfl rfl ?_
  refine gb_new nwX6_24 rfl (by decide +kernel) (by decide) (by decide) (by decide) dX6_init_38 ?_
  refine gb_dup dX6_init_41 ?_
  refine gb_sipush dX6_init_42 (by decide) (by decide) ?_
  refine gb_ctor (as := [.inl 2880]) (rest := [.inr 61, .inr 51]) oiX7_init (Or.inl miX6_26) rfl ⟨Nat.le_of_ble_eq_true rfl, Nat.le_of_ble_eq_true rfl⟩ (Nat.le_of_ble_eq_true rfl) rfl (by decide) (by decide) (by decide) dX6_init_45 (b_X7_init (N := 2880) ⟨by decide, by decide, rfl, rfl, rfl⟩ rfl) (fun σ1 e9 => ?_)
  subst e9
  refine gb_putR frX6_29 rfl (by decide) (by decide) rfl (by decide) rfl dX6_init_48 ?_
  refine gb_aload_n dX6_init_51 rfl rfl ?_
  refine gb_new nwX6_24 rfl (by decide +kernel) (by decide) (by decide) (by decide) dX6_init_52 ?_
  refine gb_dup dX6_init_55 ?_
  refine gb_sipush dX6_init_56 (by decide) (by decide) ?_
  refine gb_ctor (as := [.inl 7776]) (rest := [.inr 63, .inr 51]) oiX7_init (Or.inl miX6_26) rfl ⟨Nat.le_of_ble_eq_true rfl, Nat.le_of_ble_eq_true rfl⟩ (Nat.le_of_ble_eq_true rfl) rfl (by decide) (by decide) (by decide) dX6_init_59 (b_X7_init (N := 7776) ⟨by decide, by decide, rfl, rfl, rfl⟩ rfl) (fun σ1 e9 => ?_)
  subst e9
  refine gb_putR frX6_33 rfl (by decide) (by decide) rfl (by decide) rfl dX6_init_62 ?_
  refine gb_aload_n dX6_init_65 rfl rfl ?_
  refine gb_new nwX6_24 rfl (by decide +kernel) (by decide) (by decide) (by decide) dX6_init_66 ?_
  refine gb_dup dX6_init_69 ?_
  refine gb_iconst dX6_init_70 (by decide) ?_
  refine gb_ctor (as := [.inl 4]) (rest := [.inr 65, .inr 51]) oiX7_init (Or.inl miX6_26) rfl ⟨Nat.le_of_ble_eq_true rfl, Nat.le_of_ble_eq_true rfl⟩ (Nat.le_of_ble_eq_true rfl) rfl (by decide) (by decide) (by decide) dX6_init_71 (b_X7_init (N := 4) ⟨by decide, by decide, rfl, rfl, rfl⟩ rfl) (fun σ1 e9 => ?_)
  subst e9
  refine gb_putR frX6_36 rfl (by decide) (by decide) rfl (by decide) rfl dX6_init_74 ?_
  refine gb_aload_n dX6_init_77 rfl rfl ?_
  refine gb_iconst dX6_init_78 (by decide) ?_
  refine gb_putI fpX6_39 (by decide) rfl (by decide) rfl (Or.inl rfl) dX6_init_79 ?_
  refine gb_aload_n dX6_init_82 rfl rfl ?_
  refine gb_iconst dX6_init_83 (by decide) ?_
  refine gb_putI fpX6_43 (by decide) rfl (by decide) rfl (Or.inl rfl) dX6_init_84 ?_
  refine gb_aload_n dX6_init_87 rfl rfl ?_
  refine gb_aload_n dX6_init_88 rfl rfl ?_
  refine gb_putR frX6_46 rfl (by decide) (by decide) rfl (by decide) rfl dX6_init_89 ?_
  refine gb_aload_n dX6_init_92 rfl rfl ?_
  refine gb_aload_n dX6_init_93 rfl rfl ?_
  refine gb_putR frX6_50 rfl (by decide) (by decide) rfl (by decide) rfl dX6_init_94 ?_
  refine gb_aload_n dX6_init_97 rfl rfl ?_
  refine gb_aload_n dX6_init_98 rfl rfl ?_
  refine gb_putR frX6_54 rfl (by decide) (by decide) rfl (by decide) rfl dX6_init_99 ?_
  exact gb_return rfl rfl dX6_init_102 rfl rfl
def fX10 (σ : Mem) : Mem := mu (fX8 70 (zr 70 (mu (fX8 67 (zr 67 (mu (fX6 (zr 51 (mu (fX5 (zr 47 (mu (fX1 (zr 40 (mu (fX0 (zr 33 (mu (fX4 (zr 28 (mu (fX3 (zr 27 (mu (fX9 (zr 14 (mu (fX2 (zr 1 σ)) 0 0 1))) 0 1 1))) 0 2 1))) 0 3 1))) 0 4 1))) 0 5 1))) 0 6 1))) 0 7 1))) 0 8 1))) 0 9 1
set_option maxRecDepth 100000 in
theorem b_X10_init {σ : Mem} : CB mX10_init [.inr 0] 1 73 σ (fun σ1 => σ1 = fX10 σ) := by
  refine CB_of_GW (by decide +kernel) ⟨rfl, rfl⟩ (Nat.le_of_ble_eq_true rfl) rfl ?_
  show GW none mX10_init 1 73 0 [some (.inr 0)] [] 1 σ _
  refine gb_aload_n dX10_init_0 rfl rfl ?_
  refine gb_obj obX10 (Nat.le_of_ble_eq_true rfl) (Nat.le_of_ble_eq_true rfl) dX10_init_1 ?_
  refine gb_aload_n dX10_init_4 rfl rfl ?_
  refine gb_new nwX10_9 rfl (by decide +kernel) (by decide) (by decide) (by decide) dX10_init_5 ?_
  refine gb_dup dX10_init_8 ?_
  refine gb_ctor (as := []) (rest := [.inr 1, .inr 0]) oiX2_init (Or.inr nest_X10_11) rfl ⟨Nat.le_of_ble_eq_true rfl, Nat.le_of_ble_eq_true rfl⟩ (Nat.le_of_ble_eq_true rfl) rfl (by decide) (by decide) (by decide) dX10_init_9 b_X2_init (fun σ1 e9 => ?_)
  subst e9
  refine gb_putR frX10_12 rfl (by decide) (by decide) rfl (by decide) rfl dX10_init_12 ?_
  refine gb_aload_n dX10_init_15 rfl rfl ?_
  refine gb_new nwX10_16 rfl (by decide +kernel) (by decide) (by decide) (by decide) dX10_init_16 ?_
  refine gb_dup dX10_init_19 ?_
  refine gb_ctor (as := []) (rest := [.inr 14, .inr 0]) oiX9_init (Or.inr nest_X10_18) rfl ⟨Nat.le_of_ble_eq_true rfl, Nat.le_of_ble_eq_true rfl⟩ (Nat.le_of_ble_eq_true rfl) rfl (by decide) (by decide) (by decide) dX10_init_20 b_X9_init (fun σ1 e9 => ?_)
  subst e9
  refine gb_putR frX10_19 rfl (by decide) (by decide) rfl (by decide) rfl dX10_init_23 ?_
  refine gb_aload_n dX10_init_26 rfl rfl ?_
  refine gb_new nwX10_23 rfl (by decide +kernel) (by decide) (by decide) (by decide) dX10_init_27 ?_
  refine gb_dup dX10_init_30 ?_
  refine gb_aload_n dX10_init_31 rfl rfl ?_
  refine gb_getR flX10_12 (by decide) rfl (by decide) rfl (show (1 : Int) ≠ 0 by decide) dX10_init_32 ?_
  refine gb_aload_n dX10_init_35 rfl rfl ?_
  refine gb_getR flX10_19 (by decide) rfl (by decide) rfl (show (1 : Int) ≠ 0 by decide) dX10_init_36 ?_
  refine gb_ctor (as := [.inr 1, .inr 14]) (rest := [.inr 27, .inr 0]) oiX3_init (Or.inl miX10_25) rfl ⟨Nat.le_of_ble_eq_true rfl, Nat.le_of_ble_eq_true rfl⟩ (Nat.le_of_ble_eq_true rfl) rfl (by decide) (by decide) (by decide) dX10_init_39 b_X3_init (fun σ1 e9 => ?_)
  subst e9
  refine gb_putR frX10_28 rfl (by decide) (by decide) rfl (by decide) rfl dX10_init_42 ?_
  refine gb_aload_n dX10_init_45 rfl rfl ?_
  refine gb_new nwX10_32 rfl (by decide +kernel) (by decide) (by decide) (by decide) dX10_init_46 ?_
  refine gb_dup dX10_init_49 ?_
  refine gb_aload_n dX10_init_50 rfl rfl ?_
  refine gb_getR flX10_12 (by decide) rfl (by decide) rfl (show (1 : Int) ≠ 0 by decide) dX10_init_51 ?_
  refine gb_aload_n dX10_init_54 rfl rfl ?_
  refine gb_getR flX10_19 (by decide) rfl (by decide) rfl (show (1 : Int) ≠ 0 by decide) dX10_init_55 ?_
  refine gb_ctor (as := [.inr 1, .inr 14]) (rest := [.inr 28, .inr 0]) oiX4_init (Or.inl miX10_34) rfl ⟨Nat.le_of_ble_eq_true rfl, Nat.le_of_ble_eq_true rfl⟩ (Nat.le_of_ble_eq_true rfl) rfl (by decide) (by decide) (by decide) dX10_init_58 b_X4_init (fun σ1 e9 => ?_)
  subst e9
  refine gb_putR frX10_35 rfl (by decide) (by decide) rfl (by decide) rfl dX10_init_61 ?_
  refine gb_aload_n dX10_init_64 rfl rfl ?_
  refine gb_new nwX10_39 rfl (by decide +kernel) (by decide) (by decide) (by decide) dX10_init_65 ?_
  refine gb_dup dX10_init_68 ?_
  refine gb_aload_n dX10_init_69 rfl rfl ?_
  refine gb_getR flX10_12 (by decide) rfl (by decide) rfl (show (1 : Int) ≠ 0 by decide) dX10_init_70 ?_
  refine gb_aload_n dX10_init_73 rfl rfl ?_
  refine gb_getR flX10_19 (by decide) rfl (by decide) rfl (show (1 : Int) ≠ 0 by decide) dX10_init_74 ?_
  refine gb_aload_n dX10_init_77 rfl rfl ?_
  refine gb_getR flX10_28 (by decide) rfl (by decide) rfl (show (1 : Int) ≠ 0 by decide) dX10_init_78 ?_
  refine gb_ctor (as := [.inr 1, .inr 14, .inr 27]) (rest := [.inr 33, .inr 0]) oiX0_init (Or.inl miX10_41) rfl ⟨Nat.le_of_ble_eq_true rfl, Nat.le_of_ble_eq_true rfl⟩ (Nat.le_of_ble_eq_true rfl) rfl (by decide) (by decide) (by decide) dX10_init_81 b_X0_init (fun σ1 e9 => ?_)
  subst e9
  refine gb_putR frX10_44 rfl (by decide) (by decide) rfl (by decide) rfl dX10_init_84 ?_
  refine gb_aload_n dX10_init_87 rfl rfl ?_
  refine gb_new nwX10_48 rfl (by decide +kernel) (by decide) (by decide) (by decide) dX10_init_88 ?_
  refine gb_dup dX10_init_91 ?_
  refine gb_aload_n dX10_init_92 rfl rfl ?_
  refine gb_getR flX10_12 (by decide) rfl (by decide) rfl (show (1 : Int) ≠ 0 by decide) dX10_init_93 ?_
  refine gb_aload_n dX10_init_96 rfl rfl ?_
  refine gb_getR flX10_28 (by decide) rfl (by decide) rfl (show (1 : Int) ≠ 0 by decide) dX10_init_97 ?_
  refine gb_ctor (as := [.inr 1, .inr 27]) (rest := [.inr 40, .inr 0]) oiX1_init (Or.inl miX10_50) rfl ⟨Nat.le_of_ble_eq_true rfl, Nat.le_of_ble_eq_true rfl⟩ (Nat.le_of_ble_eq_true rfl) rfl (by decide) (by decide) (by decide) dX10_init_100 b_X1_init (fun σ1 e9 => ?_)
  subst e9
  refine gb_putR frX10_53 rfl (by decide) (by decide) rfl (by decide) rfl dX10_init_103 ?_
  refine gb_aload_n dX10_init_106 rfl rfl ?_
  refine gb_new nwX10_57 rfl (by decide +kernel) (by decide) (by decide) (by decide) dX10_init_107 ?_
  refine gb_dup dX10_init_110 ?_
  refine gb_aload_n dX10_init_111 rfl rfl ?_
  refine gb_getR flX10_12 (by decide) rfl (by decide) rfl (show (1 : Int) ≠ 0 by decide) dX10_init_112 ?_
  refine gb_aload_n dX10_init_115 rfl rfl ?_
  refine gb_getR flX10_19 (by decide) rfl (by decide) rfl (show (1 : Int) ≠ 0 by decide) dX10_init_116 ?_
  refine gb_ctor (as := [.inr 1, .inr 14]) (rest := [.inr 47, .inr 0]) oiX5_init (Or.inl miX10_59) rfl ⟨Nat.le_of_ble_eq_true rfl, Nat.le_of_ble_eq_true rfl⟩ (Nat.le_of_ble_eq_true rfl) rfl (by decide) (by decide) (by decide) dX10_init_119 b_X5_init (fun σ1 e9 => ?_)
  subst e9
  refine gb_putR frX10_60 rfl (by decide) (by decide) rfl (by decide) rfl dX10_init_122 ?_
  refine gb_aload_n dX10_init_125 rfl rfl ?_
  refine gb_new nwX10_64 rfl (by decide +kernel) (by decide) (by decide) (by decide) dX10_init_126 ?_
  refine gb_dup dX10_init_129 ?_
  refine gb_aload_n dX10_init_130 rfl rfl ?_
  refine gb_getR flX10_12 (by decide) rfl (by decide) rfl (show (1 : Int) ≠ 0 by decide) dX10_init_131 ?_
  refine gb_aload_n dX10_init_134 rfl rfl ?_
  refine gb_getR flX10_19 (by decide) rfl (by decide) rfl (show (1 : Int) ≠ 0 by decide) dX10_init_135 ?_
  refine gb_aload_n dX10_init_138 rfl rfl ?_
  refine gb_getR flX10_28 (by decide) rfl (by decide) rfl (show (1 : Int) ≠ 0 by decide) dX10_init_139 ?_
  refine gb_ctor (as := [.inr 1, .inr 14, .inr 27]) (rest := [.inr 51, .inr 0]) oiX6_init (Or.inl miX10_66) rfl ⟨Nat.le_of_ble_eq_true rfl, Nat.le_of_ble_eq_true rfl⟩ (Nat.le_of_ble_eq_true rfl) rfl (by decide) (by decide) (by decide) dX10_init_142 b_X6_init (fun σ1 e9 => ?_)
  subst e9
  refine gb_putR frX10_67 rfl (by decide) (by decide) rfl (by decide) rfl dX10_init_145 ?_
  refine gb_aload_n dX10_init_148 rfl rfl ?_
  refine gb_new nwX10_71 rfl (by decide +kernel) (by decide) (by decide) (by decide) dX10_init_149 ?_
  refine gb_dup dX10_init_152 ?_
  refine gb_ctor (as := []) (rest := [.inr 67, .inr 0]) oiX8_init (Or.inr nest_X10_73) rfl ⟨Nat.le_of_ble_eq_true rfl, Nat.le_of_ble_eq_true rfl⟩ (Nat.le_of_ble_eq_true rfl) rfl (by decide) (by decide) (by decide) dX10_init_153 (b_X8_init ⟨by decide, rfl, rfl, rfl, by decide, by decide, rfl, rfl, rfl⟩) (fun σ1 e9 => ?_)
  subst e9
  refine gb_putR frX10_74 rfl (by decide) (by decide) rfl (by decide) rfl dX10_init_156 ?_
  refine gb_aload_n dX10_init_159 rfl rfl ?_
  refine gb_new nwX10_71 rfl (by decide +kernel) (by decide) (by decide) (by decide) dX10_init_160 ?_
  refine gb_dup dX10_init_163 ?_
  refine gb_ctor (as := []) (rest := [.inr 70, .inr 0]) oiX8_init (Or.inr nest_X10_73) rfl ⟨Nat.le_of_ble_eq_true rfl, Nat.le_of_ble_eq_true rfl⟩ (Nat.le_of_ble_eq_true rfl) rfl (by decide) (by decide) (by decide) dX10_init_164 (b_X8_init ⟨by decide, rfl, rfl, rfl, by decide, by decide, rfl, rfl, rfl⟩) (fun σ1 e9 => ?_)
  subst e9
  refine gb_putR frX10_78 rfl (by decide) (by decide) rfl (by decide) rfl dX10_init_167 ?_
  exact gb_return rfl rfl dX10_init_170 rfl rfl
