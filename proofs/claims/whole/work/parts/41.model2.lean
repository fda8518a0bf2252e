/-! ===== the reference's calls: floor, shops ===== -/
theorem bitA : ∀ u, u < 64 → ∀ t, t < 6 → (0 ≤ ior ((u : Nat) : Int) (ishl 1 ((t : Nat) : Int)) ∧ ior ((u : Nat) : Int) (ishl 1 ((t : Nat) : Int)) < 64) ∧ ∀ s, s < 6 → (iand (ishr (ior ((u : Nat) : Int) (ishl 1 ((t : Nat) : Int))) ((s : Nat) : Int)) 1 = 1 ↔ (s = t ∨ iand (ishr ((u : Nat) : Int) ((s : Nat) : Int)) 1 = 1)) := by decide +kernel
theorem bitB : ∀ u, u < 64 → ∀ s, s < 6 → iand (ishr ((u : Nat) : Int) ((s : Nat) : Int)) 1 = 0 ∨ iand (ishr ((u : Nat) : Int) ((s : Nat) : Int)) 1 = 1 := by decide +kernel
def bitsOf (u : Int) (p : List Nat) : Prop := 0 ≤ u ∧ u < 64 ∧ ∀ s, s < 6 → (iand (ishr u ((s : Nat) : Int)) 1 = 1 ↔ s ∈ p)
theorem bitsOf.nil : bitsOf 0 [] := ⟨by omega, by omega, fun s hs => by
  have : ∀ s, s < 6 → iand (ishr 0 ((s : Nat) : Int)) 1 ≠ 1 := by decide +kernel
  simp [this s hs]⟩
theorem bitsOf.add {u : Int} {p q : List Nat} {t : Nat} (h : bitsOf u p) (ht : t < 6) (hq : ∀ s, s ∈ q ↔ s = t ∨ s ∈ p) : bitsOf (ior u (ishl 1 (t : Int))) q := by
  obtain ⟨h0, h1, h2⟩ := h
  obtain ⟨w, rfl⟩ : ∃ w : Nat, u = w := ⟨u.toNat, by omega⟩
  have := bitA w (by omega) t ht
  exact ⟨this.1.1, this.1.2, fun s hs => by rw [this.2 s hs, hq s, h2 s hs]⟩
theorem bitsOf.one {u : Int} {p : List Nat} {s : Nat} (h : bitsOf u p) (hs : s < 6) : (iand (ishr u (s : Int)) 1 = 0 ↔ s ∉ p) := by
  obtain ⟨h0, h1, h2⟩ := h
  obtain ⟨w, rfl⟩ : ∃ w : Nat, u = w := ⟨u.toNat, by omega⟩
  have a := bitB w (by omega) s hs
  have b := h2 s hs
  constructor
  · intro e m
    have := b.mpr m
    omega
  · intro e
    rcases a with a | a
    · exact a
    · exact absurd (b.mp a) e
def mds : List Nat := [73, 74, 75, 76, 77, 78, 79, 80, 81, 82, 83, 84, 85, 86, 87, 88, 89, 90, 91, 92, 93, 94]
/-- the reference answers v and stands for Z' -/
def RQ (σ : Mem) (v : Int) (Z' : Zt) (w : Int) (σ1 : Mem) : Prop := w = v ∧ MI Z' σ1 ∧ Same mds σ σ1
set_option maxRecDepth 100000 in
theorem rX11_column_0 {x1 x2 x3 : Int}  {σ : Mem} {Q : Int → Mem → Prop} (h : (0 ≤ x1 ∧ x1 < 6 ∧ 0 ≤ x2 ∧ x2 < 6 → ((inR (6 * x2)) ∧ (((inR ((6 * x2) + x1)) ∧ (((0 ≤ ((6 * x2) + x1)) ∧ (((((6 * x2) + x1) < 36) ∧ (((σ 74 (((6 * x2) + x1)).toNat) < 0 → (x3 = 0 → Q 1 (mu (mu σ 74 (((6 * x2) + x1)).toNat (-1)) 75 (((6 * x2) + x1)).toNat 0)) ∧ (x3 ≠ 0 → Q 1 (mu (mu σ 74 (((6 * x2) + x1)).toNat (-2)) 75 (((6 * x2) + x1)).toNat 0))) ∧ (0 ≤ (σ 74 (((6 * x2) + x1)).toNat) → Q (-3) σ)))))))))) ∧ (¬ (0 ≤ x1 ∧ x1 < 6 ∧ 0 ≤ x2 ∧ x2 < 6) → Q (-2) σ)) : CM mX11_column [.inr 73, .inl x1, .inl x2, .inl x3] σ Q := by
  refine CM_of_GO (by decide +kernel) rfl (Nat.le_of_ble_eq_true rfl) ?_
  show GO none mX11_column 0 [some (.inr 73), some (.inl x1), some (.inl x2), some (.inl x3), none] [] σ Q
  refine g_iload_n dX11_column_0 rfl rfl ?_
  refine g_iload_n dX11_column_1 rfl rfl ?_
  refine g_invSI (as := [.inl x1, .inl x2]) (rest := []) okX11_isCell rfl mlX11_88 rfl ⟨Nat.le_of_ble_eq_true rfl, Nat.le_of_ble_eq_true rfl⟩ (Nat.le_of_ble_eq_true rfl) rfl dX11_column_2 (c_X11_isCell) (Or.inr rfl) (fun v1 σ2 e3 => ?_)
  obtain ⟨e3a, e3b⟩ := e3; subst v1; subst σ2
  refine g_if_ne (tgt := 11) dX11_column_5 (by decide) (fun c4 => ?_) (fun c4 => ?_)
  · have h := h.1 (ite_yes c4)
    refine g_bipush dX11_column_11 (by decide) (by decide) ?_
    refine g_iload_n dX11_column_13 rfl rfl ?_
    obtain ⟨p5, h⟩ := h
    refine g_imul dX11_column_14 p5 ?_
    refine g_iload_n dX11_column_15 rfl rfl ?_
    obtain ⟨p6, h⟩ := h
    refine g_iadd dX11_column_16 p6 ?_
    refine g_istore (ls' := [some (.inr 73), some (.inl x1), some (.inl x2), some (.inl x3), some (.inl ((6 * x2) + x1))]) dX11_column_17 (by decide) rfl ?_
    refine g_aload_n dX11_column_19 rfl rfl ?_
    refine g_getR (r' := 74) flX11_7 (by decide) rfl (by decide) rfl dX11_column_20 ?_
    refine g_iload dX11_column_23 rfl ?_
    obtain ⟨p7, h⟩ := h
    obtain ⟨p8, h⟩ := h
    refine g_iald (by decide) rfl p7 p8 dX11_column_25 ?_
    refine g_if_lt (tgt := 32) dX11_column_26 (by decide) (fun c9 => ?_) (fun c9 => ?_)
    · have h := h.1 c9
      refine g_aload_n dX11_column_32 rfl rfl ?_
      refine g_getR (r' := 74) flX11_7 (by decide) rfl (by decide) rfl dX11_column_33 ?_
      refine g_iload dX11_column_36 rfl ?_
      refine g_iload_n dX11_column_38 rfl rfl ?_
      refine g_if_eq (tgt := 47) dX11_column_39 (by decide) (fun c10 => ?_) (fun c10 => ?_)
      · have h := h.1 c10
        refine g_iconst dX11_column_47 (by decide) ?_
        refine g_iast (by decide) rfl p7 p8 dX11_column_48 ?_
        refine g_aload_n dX11_column_49 rfl rfl ?_
        refine g_getR (r' := 75) flX11_13 (by decide) rfl (by decide) rfl dX11_column_50 ?_
        refine g_iload dX11_column_53 rfl ?_
        refine g_iconst dX11_column_55 (by decide) ?_
        refine g_zast (by decide) rfl p7 p8 (by decide) dX11_column_56 ?_
        refine g_iconst dX11_column_57 (by decide) ?_
        exact g_ireturn rfl dX11_column_58 h
      · have h := h.2 c10
        refine g_bipush dX11_column_42 (by decide) (by decide) ?_
        refine g_goto (tgt := 48) dX11_column_44 (by decide) ?_
        refine g_iast (by decide) rfl p7 p8 dX11_column_48 ?_
        refine g_aload_n dX11_column_49 rfl rfl ?_
        refine g_getR (r' := 75) flX11_13 (by decide) rfl (by decide) rfl dX11_column_50 ?_
        refine g_iload dX11_column_53 rfl ?_
        refine g_iconst dX11_column_55 (by decide) ?_
        refine g_zast (by decide) rfl p7 p8 (by decide) dX11_column_56 ?_
        refine g_iconst dX11_column_57 (by decide) ?_
        exact g_ireturn rfl dX11_column_58 h
    · have h := h.2 c9
      refine g_bipush dX11_column_29 (by decide) (by decide) ?_
      exact g_ireturn rfl dX11_column_31 h
  · have h := h.2 (ite_no c4)
    refine g_bipush dX11_column_8 (by decide) (by decide) ?_
    exact g_ireturn rfl dX11_column_10 h
set_option maxRecDepth 100000 in
theorem rX11_slot_0 {x1 x2 : Int}  {σ : Mem} {Q : Int → Mem → Prop} (h : (0 ≤ x1 ∧ x1 < 6 ∧ 0 ≤ x2 ∧ x2 < 6 → ((inR (6 * x2)) ∧ (((inR ((6 * x2) + x1)) ∧ (((0 ≤ ((6 * x2) + x1)) ∧ (((((6 * x2) + x1) < 36) ∧ (((σ 74 (((6 * x2) + x1)).toNat) ≠ (-1) → Q (-3) σ) ∧ ((σ 74 (((6 * x2) + x1)).toNat) = (-1) → ((σ 75 (((6 * x2) + x1)).toNat) = 0 → ((σ 73 2) ≠ 6 → ((0 ≤ (σ 73 2)) ∧ ((((σ 73 2) < 6) ∧ (((inR ((σ 73 2) + 1)) ∧ (((inR (((σ 73 2) + 1) - 1)) ∧ (Q (((σ 73 2) + 1) - 1) (mu (mu (mu σ 74 (((6 * x2) + x1)).toNat (σ 73 2)) 76 ((σ 73 2)).toNat ((6 * x2) + x1)) 73 2 ((σ 73 2) + 1))))))))))) ∧ ((σ 73 2) = 6 → Q (-4) σ)) ∧ ((σ 75 (((6 * x2) + x1)).toNat) ≠ 0 → Q (-3) σ))))))))))) ∧ (¬ (0 ≤ x1 ∧ x1 < 6 ∧ 0 ≤ x2 ∧ x2 < 6) → Q (-2) σ)) : CM mX11_slot [.inr 73, .inl x1, .inl x2] σ Q := by
  refine CM_of_GO (by decide +kernel) rfl (Nat.le_of_ble_eq_true rfl) ?_
  show GO none mX11_slot 0 [some (.inr 73), some (.inl x1), some (.inl x2), none] [] σ Q
  refine g_iload_n dX11_slot_0 rfl rfl ?_
  refine g_iload_n dX11_slot_1 rfl rfl ?_
  refine g_invSI (as := [.inl x1, .inl x2]) (rest := []) okX11_isCell rfl mlX11_88 rfl ⟨Nat.le_of_ble_eq_true rfl, Nat.le_of_ble_eq_true rfl⟩ (Nat.le_of_ble_eq_true rfl) rfl dX11_slot_2 (c_X11_isCell) (Or.inr rfl) (fun v1 σ2 e3 => ?_)
  obtain ⟨e3a, e3b⟩ := e3; subst v1; subst σ2
  refine g_if_ne (tgt := 11) dX11_slot_5 (by decide) (fun c4 => ?_) (fun c4 => ?_)
  · have h := h.1 (ite_yes c4)
    refine g_bipush dX11_slot_11 (by decide) (by decide) ?_
    refine g_iload_n dX11_slot_13 rfl rfl ?_
    obtain ⟨p5, h⟩ := h
    refine g_imul dX11_slot_14 p5 ?_
    refine g_iload_n dX11_slot_15 rfl rfl ?_
    obtain ⟨p6, h⟩ := h
    refine g_iadd dX11_slot_16 p6 ?_
    refine g_istore_n (ls' := [some (.inr 73), some (.inl x1), some (.inl x2), some (.inl ((6 * x2) + x1))]) dX11_slot_17 rfl (by decide) rfl ?_
    refine g_aload_n dX11_slot_18 rfl rfl ?_
    refine g_getR (r' := 74) flX11_7 (by decide) rfl (by decide) rfl dX11_slot_19 ?_
    refine g_iload_n dX11_slot_22 rfl rfl ?_
    obtain ⟨p7, h⟩ := h
    obtain ⟨p8, h⟩ := h
    refine g_iald (by decide) rfl p7 p8 dX11_slot_23 ?_
    refine g_iconst dX11_slot_24 (by decide) ?_
    refine g_icmp_ne (tgt := 37) dX11_slot_25 (by decide) (fun c9 => ?_) (fun c9 => ?_)
    · have h := h.1 c9
      refine g_bipush dX11_slot_37 (by decide) (by decide) ?_
      exact g_ireturn rfl dX11_slot_39 h
    · have h := h.2 c9
      refine g_aload_n dX11_slot_28 rfl rfl ?_
      refine g_getR (r' := 75) flX11_13 (by decide) rfl (by decide) rfl dX11_slot_29 ?_
      refine g_iload_n dX11_slot_32 rfl rfl ?_
      refine g_zald (by decide) rfl p7 p8 dX11_slot_33 ?_
      refine g_if_eq (tgt := 40) dX11_slot_34 (by decide) (fun c10 => ?_) (fun c10 => ?_)
      · have h := h.1 c10
        refine g_aload_n dX11_slot_40 rfl rfl ?_
        refine g_getI flX11_82 (by decide) rfl (by decide) rfl dX11_slot_41 ?_
        refine g_bipush dX11_slot_44 (by decide) (by decide) ?_
        refine g_icmp_ne (tgt := 52) dX11_slot_46 (by decide) (fun c11 => ?_) (fun c11 => ?_)
        · have h := h.1 c11
          refine g_aload_n dX11_slot_52 rfl rfl ?_
          refine g_getR (r' := 74) flX11_7 (by decide) rfl (by decide) rfl dX11_slot_53 ?_
          refine g_iload_n dX11_slot_56 rfl rfl ?_
          refine g_aload_n dX11_slot_57 rfl rfl ?_
          refine g_getI flX11_82 (by decide) rfl (by decide) rfl dX11_slot_58 ?_
          refine g_iast (by decide) rfl p7 p8 dX11_slot_61 ?_
          refine g_aload_n dX11_slot_62 rfl rfl ?_
          refine g_getR (r' := 76) flX11_17 (by decide) rfl (by decide) rfl dX11_slot_63 ?_
          refine g_aload_n dX11_slot_66 rfl rfl ?_
          refine g_getI flX11_82 (by decide) rfl (by decide) rfl dX11_slot_67 ?_
          refine g_top (w := (σ 73 2)) rfl ?_
          refine g_iload_n dX11_slot_70 rfl rfl ?_
          obtain ⟨p12, h⟩ := h
          obtain ⟨p13, h⟩ := h
          refine g_iast (by decide) rfl p12 p13 dX11_slot_71 ?_
          refine g_aload_n dX11_slot_72 rfl rfl ?_
          refine g_dup dX11_slot_73 ?_
          refine g_getI flX11_82 (by decide) rfl (by decide) rfl dX11_slot_74 ?_
          refine g_top (w := (σ 73 2)) rfl ?_
          refine g_iconst dX11_slot_77 (by decide) ?_
          obtain ⟨p14, h⟩ := h
          refine g_iadd dX11_slot_78 p14 ?_
          refine g_putI fpX11_82 (by decide) rfl (by decide) rfl (Or.inl rfl) dX11_slot_79 ?_
          refine g_aload_n dX11_slot_82 rfl rfl ?_
          refine g_getI flX11_82 (by decide) rfl (by decide) rfl dX11_slot_83 ?_
          refine g_top (w := ((σ 73 2) + 1)) rfl ?_
          refine g_iconst dX11_slot_86 (by decide) ?_
          obtain ⟨p15, h⟩ := h
          refine g_isub dX11_slot_87 p15 ?_
          exact g_ireturn rfl dX11_slot_88 h
        · have h := h.2 c11
          refine g_bipush dX11_slot_49 (by decide) (by decide) ?_
          exact g_ireturn rfl dX11_slot_51 h
      · have h := h.2 c10
        refine g_bipush dX11_slot_37 (by decide) (by decide) ?_
        exact g_ireturn rfl dX11_slot_39 h
  · have h := h.2 (ite_no c4)
    refine g_bipush dX11_slot_8 (by decide) (by decide) ?_
    exact g_ireturn rfl dX11_slot_10 h
set_option maxRecDepth 100000 in
theorem rX11_exit_0 {x1 x2 x3 : Int}  {σ : Mem} {Q : Int → Mem → Prop} (h : (0 ≤ x1 ∧ x1 < 6 ∧ 0 ≤ x2 ∧ x2 < 6 → ((inR (6 * x2)) ∧ (((inR ((6 * x2) + x1)) ∧ (((0 ≤ ((6 * x2) + x1)) ∧ (((((6 * x2) + x1) < 36) ∧ (((σ 74 (((6 * x2) + x1)).toNat) = (-1) → ((σ 75 (((6 * x2) + x1)).toNat) = 0 → ((x3 = 0 ∨ x3 = 1) ∧ (Q 0 (mu σ 75 (((6 * x2) + x1)).toNat x3)))) ∧ ((σ 75 (((6 * x2) + x1)).toNat) ≠ 0 → ((x3 = 0 ∨ x3 = 1) ∧ (Q 1 (mu σ 75 (((6 * x2) + x1)).toNat x3))))) ∧ ((σ 74 (((6 * x2) + x1)).toNat) ≠ (-1) → Q (-3) σ)))))))))) ∧ (¬ (0 ≤ x1 ∧ x1 < 6 ∧ 0 ≤ x2 ∧ x2 < 6) → Q (-2) σ)) : CM mX11_exit [.inr 73, .inl x1, .inl x2, .inl x3] σ Q := by
  refine CM_of_GO (by decide +kernel) rfl (Nat.le_of_ble_eq_true rfl) ?_
  show GO none mX11_exit 0 [some (.inr 73), some (.inl x1), some (.inl x2), some (.inl x3), none, none] [] σ Q
  refine g_iload_n dX11_exit_0 rfl rfl ?_
  refine g_iload_n dX11_exit_1 rfl rfl ?_
  refine g_invSI (as := [.inl x1, .inl x2]) (rest := []) okX11_isCell rfl mlX11_88 rfl ⟨Nat.le_of_ble_eq_true rfl, Nat.le_of_ble_eq_true rfl⟩ (Nat.le_of_ble_eq_true rfl) rfl dX11_exit_2 (c_X11_isCell) (Or.inr rfl) (fun v1 σ2 e3 => ?_)
  obtain ⟨e3a, e3b⟩ := e3; subst v1; subst σ2
  refine g_if_ne (tgt := 11) dX11_exit_5 (by decide) (fun c4 => ?_) (fun c4 => ?_)
  · have h := h.1 (ite_yes c4)
    refine g_bipush dX11_exit_11 (by decide) (by decide) ?_
    refine g_iload_n dX11_exit_13 rfl rfl ?_
    obtain ⟨p5, h⟩ := h
    refine g_imul dX11_exit_14 p5 ?_
    refine g_iload_n dX11_exit_15 rfl rfl ?_
    obtain ⟨p6, h⟩ := h
    refine g_iadd dX11_exit_16 p6 ?_
    refine g_istore (ls' := [some (.inr 73), some (.inl x1), some (.inl x2), some (.inl x3), some (.inl ((6 * x2) + x1)), none]) dX11_exit_17 (by decide) rfl ?_
    refine g_aload_n dX11_exit_19 rfl rfl ?_
    refine g_getR (r' := 74) flX11_7 (by decide) rfl (by decide) rfl dX11_exit_20 ?_
    refine g_iload dX11_exit_23 rfl ?_
    obtain ⟨p7, h⟩ := h
    obtain ⟨p8, h⟩ := h
    refine g_iald (by decide) rfl p7 p8 dX11_exit_25 ?_
    refine g_iconst dX11_exit_26 (by decide) ?_
    refine g_icmp_eq (tgt := 33) dX11_exit_27 (by decide) (fun c9 => ?_) (fun c9 => ?_)
    · have h := h.1 c9
      refine g_aload_n dX11_exit_33 rfl rfl ?_
      refine g_getR (r' := 75) flX11_13 (by decide) rfl (by decide) rfl dX11_exit_34 ?_
      refine g_iload dX11_exit_37 rfl ?_
      refine g_zald (by decide) rfl p7 p8 dX11_exit_39 ?_
      refine g_if_eq (tgt := 47) dX11_exit_40 (by decide) (fun c10 => ?_) (fun c10 => ?_)
      · have h := h.1 c10
        refine g_iconst dX11_exit_47 (by decide) ?_
        refine g_istore (ls' := [some (.inr 73), some (.inl x1), some (.inl x2), some (.inl x3), some (.inl ((6 * x2) + x1)), some (.inl 0)]) dX11_exit_48 (by decide) rfl ?_
        refine g_aload_n dX11_exit_50 rfl rfl ?_
        refine g_getR (r' := 75) flX11_13 (by decide) rfl (by decide) rfl dX11_exit_51 ?_
        refine g_iload dX11_exit_54 rfl ?_
        refine g_iload_n dX11_exit_56 rfl rfl ?_
        obtain ⟨p11, h⟩ := h
        refine g_zast (by decide) rfl p7 p8 p11 dX11_exit_57 ?_
        refine g_iload dX11_exit_58 rfl ?_
        exact g_ireturn rfl dX11_exit_60 h
      · have h := h.2 c10
        refine g_iconst dX11_exit_43 (by decide) ?_
        refine g_goto (tgt := 48) dX11_exit_44 (by decide) ?_
        refine g_istore (ls' := [some (.inr 73), some (.inl x1), some (.inl x2), some (.inl x3), some (.inl ((6 * x2) + x1)), some (.inl 1)]) dX11_exit_48 (by decide) rfl ?_
        refine g_aload_n dX11_exit_50 rfl rfl ?_
        refine g_getR (r' := 75) flX11_13 (by decide) rfl (by decide) rfl dX11_exit_51 ?_
        refine g_iload dX11_exit_54 rfl ?_
        refine g_iload_n dX11_exit_56 rfl rfl ?_
        obtain ⟨p12, h⟩ := h
        refine g_zast (by decide) rfl p7 p8 p12 dX11_exit_57 ?_
        refine g_iload dX11_exit_58 rfl ?_
        exact g_ireturn rfl dX11_exit_60 h
    · have h := h.2 c9
      refine g_bipush dX11_exit_30 (by decide) (by decide) ?_
      exact g_ireturn rfl dX11_exit_32 h
  · have h := h.2 (ite_no c4)
    refine g_bipush dX11_exit_8 (by decide) (by decide) ?_
    exact g_ireturn rfl dX11_exit_10 h
set_option maxRecDepth 100000 in
theorem rX11_far_0 {x1 x2 : Int}  {σ : Mem} {Q : Int → Mem → Prop} (h : ((inR ((σ 73 2) - 1)) ∧ ((¬ (0 ≤ x1 ∧ x1 < σ 73 2) → Q (-2) σ) ∧ (0 ≤ x1 ∧ x1 < σ 73 2 → (0 ≤ x2 ∧ x2 < σ 73 2 → CM mX11_layFloor [.inr 73] σ (fun _ σ11 => ((inR (6 * x1)) ∧ (((inR ((6 * x1) + x2)) ∧ (((0 ≤ ((6 * x1) + x2)) ∧ (((((6 * x1) + x2) < 36) ∧ (Q (σ11 86 (((6 * x1) + x2)).toNat) σ11)))))))))) ∧ (¬ (0 ≤ x2 ∧ x2 < σ 73 2) → Q (-2) σ))))) : CM mX11_far [.inr 73, .inl x1, .inl x2] σ Q := by
  refine CM_of_GO (by decide +kernel) rfl (Nat.le_of_ble_eq_true rfl) ?_
  show GO none mX11_far 0 [some (.inr 73), some (.inl x1), some (.inl x2)] [] σ Q
  refine g_aload_n dX11_far_0 rfl rfl ?_
  refine g_iload_n dX11_far_1 rfl rfl ?_
  obtain ⟨p1, h⟩ := h
  refine g_invVI (as := [.inl x1]) (rest := []) okX11_isSlot mlX11_100 (by decide) rfl ⟨_, _, rfl⟩ rfl ⟨Nat.le_of_ble_eq_true rfl, Nat.le_of_ble_eq_true rfl⟩ (Nat.le_of_ble_eq_true rfl) rfl dX11_far_2 (c_X11_isSlot p1) (Or.inr rfl) (fun v2 σ3 e4 => ?_)
  obtain ⟨e4a, e4b⟩ := e4; subst v2; subst σ3
  refine g_if_eq (tgt := 16) dX11_far_5 (by decide) (fun c5 => ?_) (fun c5 => ?_)
  · have h := h.1 (ite_no c5)
    refine g_bipush dX11_far_16 (by decide) (by decide) ?_
    exact g_ireturn rfl dX11_far_18 h
  · have h := h.2 (ite_yes c5)
    refine g_aload_n dX11_far_8 rfl rfl ?_
    refine g_iload_n dX11_far_9 rfl rfl ?_
    refine g_invVI (as := [.inl x2]) (rest := []) okX11_isSlot mlX11_100 (by decide) rfl ⟨_, _, rfl⟩ rfl ⟨Nat.le_of_ble_eq_true rfl, Nat.le_of_ble_eq_true rfl⟩ (Nat.le_of_ble_eq_true rfl) rfl dX11_far_10 (c_X11_isSlot p1) (Or.inr rfl) (fun v6 σ7 e8 => ?_)
    obtain ⟨e8a, e8b⟩ := e8; subst v6; subst σ7
    refine g_if_ne (tgt := 19) dX11_far_13 (by decide) (fun c9 => ?_) (fun c9 => ?_)
    · have h := h.1 (ite_yes c9)
      refine g_aload_n dX11_far_19 rfl rfl ?_
      refine g_invVV (as := []) (rest := []) okX11_layFloor mlX11_104 (by decide) rfl ⟨_, _, rfl⟩ rfl ⟨Nat.le_of_ble_eq_true rfl, Nat.le_of_ble_eq_true rfl⟩ (Nat.le_of_ble_eq_true rfl) rfl dX11_far_20 h rfl (fun σ11 e12 => ?_)
      have h := e12
      refine g_aload_n dX11_far_23 rfl rfl ?_
      refine g_getR (r' := 86) flX11_51 (by decide) rfl (by decide) rfl dX11_far_24 ?_
      refine g_bipush dX11_far_27 (by decide) (by decide) ?_
      refine g_iload_n dX11_far_29 rfl rfl ?_
      obtain ⟨p13, h⟩ := h
      refine g_imul dX11_far_30 p13 ?_
      refine g_iload_n dX11_far_31 rfl rfl ?_
      obtain ⟨p14, h⟩ := h
      refine g_iadd dX11_far_32 p14 ?_
      obtain ⟨p15, h⟩ := h
      obtain ⟨p16, h⟩ := h
      refine g_iald (by decide) rfl p15 p16 dX11_far_33 ?_
      exact g_ireturn rfl dX11_far_34 h
    · have h := h.2 (ite_no c9)
      refine g_bipush dX11_far_16 (by decide) (by decide) ?_
      exact g_ireturn rfl dX11_far_18 h
set_option maxRecDepth 100000 in
theorem rX11_out_0 {x1 : Int}  {σ : Mem} {Q : Int → Mem → Prop} (h : ((inR ((σ 73 2) - 1)) ∧ ((0 ≤ x1 ∧ x1 < σ 73 2 → CM mX11_layFloor [.inr 73] σ (fun _ σ7 => ((0 ≤ x1) ∧ (((x1 < 6) ∧ (Q (σ7 87 (x1).toNat) σ7)))))) ∧ (¬ (0 ≤ x1 ∧ x1 < σ 73 2) → Q (-2) σ)))) : CM mX11_out [.inr 73, .inl x1] σ Q := by
  refine CM_of_GO (by decide +kernel) rfl (Nat.le_of_ble_eq_true rfl) ?_
  show GO none mX11_out 0 [some (.inr 73), some (.inl x1)] [] σ Q
  refine g_aload_n dX11_out_0 rfl rfl ?_
  refine g_iload_n dX11_out_1 rfl rfl ?_
  obtain ⟨p1, h⟩ := h
  refine g_invVI (as := [.inl x1]) (rest := []) okX11_isSlot mlX11_100 (by decide) rfl ⟨_, _, rfl⟩ rfl ⟨Nat.le_of_ble_eq_true rfl, Nat.le_of_ble_eq_true rfl⟩ (Nat.le_of_ble_eq_true rfl) rfl dX11_out_2 (c_X11_isSlot p1) (Or.inr rfl) (fun v2 σ3 e4 => ?_)
  obtain ⟨e4a, e4b⟩ := e4; subst v2; subst σ3
  refine g_if_ne (tgt := 11) dX11_out_5 (by decide) (fun c5 => ?_) (fun c5 => ?_)
  · have h := h.1 (ite_yes c5)
    refine g_aload_n dX11_out_11 rfl rfl ?_
    refine g_invVV (as := []) (rest := []) okX11_layFloor mlX11_104 (by decide) rfl ⟨_, _, rfl⟩ rfl ⟨Nat.le_of_ble_eq_true rfl, Nat.le_of_ble_eq_true rfl⟩ (Nat.le_of_ble_eq_true rfl) rfl dX11_out_12 h rfl (fun σ7 e8 => ?_)
    have h := e8
    refine g_aload_n dX11_out_15 rfl rfl ?_
    refine g_getR (r' := 87) flX11_54 (by decide) rfl (by decide) rfl dX11_out_16 ?_
    refine g_iload_n dX11_out_19 rfl rfl ?_
    obtain ⟨p9, h⟩ := h
    obtain ⟨p10, h⟩ := h
    refine g_iald (by decide) rfl p9 p10 dX11_out_20 ?_
    exact g_ireturn rfl dX11_out_21 h
  · have h := h.2 (ite_no c5)
    refine g_bipush dX11_out_8 (by decide) (by decide) ?_
    exact g_ireturn rfl dX11_out_10 h
set_option maxRecDepth 100000 in
theorem rX11_bound_0 {x1 : Int}  {σ : Mem} {Q : Int → Mem → Prop} (h : (0 ≤ x1 ∧ x1 ≤ 41 → Q (σ 73 4) (mu σ 73 4 x1)) ∧ (¬ (0 ≤ x1 ∧ x1 ≤ 41) → Q (-2) σ)) : CM mX11_bound [.inr 73, .inl x1] σ Q := by
  refine CM_of_GO (by decide +kernel) rfl (Nat.le_of_ble_eq_true rfl) ?_
  show GO none mX11_bound 0 [some (.inr 73), some (.inl x1), none] [] σ Q
  refine g_iload_n dX11_bound_0 rfl rfl ?_
  refine g_iconst dX11_bound_1 (by decide) ?_
  refine g_bipush dX11_bound_2 (by decide) (by decide) ?_
  refine g_invSI (as := [.inl x1, .inl 0, .inl 41]) (rest := []) okX11_in rfl mlX11_78 rfl ⟨Nat.le_of_ble_eq_true rfl, Nat.le_of_ble_eq_true rfl⟩ (Nat.le_of_ble_eq_true rfl) rfl dX11_bound_4 (c_X11_in) (Or.inr rfl) (fun v1 σ2 e3 => ?_)
  obtain ⟨e3a, e3b⟩ := e3; subst v1; subst σ2
  refine g_if_ne (tgt := 13) dX11_bound_7 (by decide) (fun c4 => ?_) (fun c4 => ?_)
  · have h := h.1 (ite_yes c4)
    refine g_aload_n dX11_bound_13 rfl rfl ?_
    refine g_getI flX11_20 (by decide) rfl (by decide) rfl dX11_bound_14 ?_
    refine g_istore_n (ls' := [some (.inr 73), some (.inl x1), some (.inl (σ 73 4))]) dX11_bound_17 rfl (by decide) rfl ?_
    refine g_aload_n dX11_bound_18 rfl rfl ?_
    refine g_iload_n dX11_bound_19 rfl rfl ?_
    refine g_putI fpX11_20 (by decide) rfl (by decide) rfl (Or.inl rfl) dX11_bound_20 ?_
    refine g_iload_n dX11_bound_23 rfl rfl ?_
    exact g_ireturn rfl dX11_bound_24 h
  · have h := h.2 (ite_no c4)
    refine g_bipush dX11_bound_10 (by decide) (by decide) ?_
    exact g_ireturn rfl dX11_bound_12 h
set_option maxRecDepth 100000 in
theorem rX11_shop_0  {σ : Mem} {Q : Int → Mem → Prop} (h : ((σ 73 5) ≠ 5 → ((σ 73 5) < (σ 73 2) → GO none mX11_shop 29 [some (.inr 73), some (.inl 0), some (.inl 0)] [] σ Q) ∧ ((σ 73 2) ≤ (σ 73 5) → Q (-3) σ)) ∧ ((σ 73 5) = 5 → Q (-4) σ)) : CM mX11_shop [.inr 73] σ Q := by
  refine CM_of_GO (by decide +kernel) rfl (Nat.le_of_ble_eq_true rfl) ?_
  show GO none mX11_shop 0 [some (.inr 73), none, none] [] σ Q
  refine g_aload_n dX11_shop_0 rfl rfl ?_
  refine g_getI flX11_85 (by decide) rfl (by decide) rfl dX11_shop_1 ?_
  refine g_iconst dX11_shop_4 (by decide) ?_
  refine g_icmp_ne (tgt := 11) dX11_shop_5 (by decide) (fun c1 => ?_) (fun c1 => ?_)
  · have h := h.1 c1
    refine g_aload_n dX11_shop_11 rfl rfl ?_
    refine g_getI flX11_82 (by decide) rfl (by decide) rfl dX11_shop_12 ?_
    refine g_aload_n dX11_shop_15 rfl rfl ?_
    refine g_getI flX11_85 (by decide) rfl (by decide) rfl dX11_shop_16 ?_
    refine g_icmp_gt (tgt := 25) dX11_shop_19 (by decide) (fun c2 => ?_) (fun c2 => ?_)
    · have h := h.1 c2
      refine g_iconst dX11_shop_25 (by decide) ?_
      refine g_istore_n (ls' := [some (.inr 73), some (.inl 0), none]) dX11_shop_26 rfl (by decide) rfl ?_
      refine g_iconst dX11_shop_27 (by decide) ?_
      refine g_istore_n (ls' := [some (.inr 73), some (.inl 0), some (.inl 0)]) dX11_shop_28 rfl (by decide) rfl ?_
      exact h
    · have h := h.2 c2
      refine g_bipush dX11_shop_22 (by decide) (by decide) ?_
      exact g_ireturn rfl dX11_shop_24 h
  · have h := h.2 c1
    refine g_bipush dX11_shop_8 (by decide) (by decide) ?_
    exact g_ireturn rfl dX11_shop_10 h
set_option maxRecDepth 100000 in
theorem rX11_shop_29 {x1 x2 : Int}  {σ : Mem} {Q : Int → Mem → Prop} (h : ((σ 73 5) ≤ x2 → GO none mX11_shop 56 [some (.inr 73), some (.inl x1), some (.inl 0)] [] σ Q) ∧ (x2 < (σ 73 5) → ((0 ≤ x2) ∧ (((x2 < 5) ∧ (((inR (x2 + 1)) ∧ (GO none mX11_shop 29 [some (.inr 73), some (.inl (ior x1 (ishl 1 (σ 77 (x2).toNat)))), some (.inl (x2 + 1))] [] σ Q)))))))) : GO none mX11_shop 29 [some (.inr 73), some (.inl x1), some (.inl x2)] [] σ Q := by
  refine g_iload_n dX11_shop_29 rfl rfl ?_
  refine g_aload_n dX11_shop_30 rfl rfl ?_
  refine g_getI flX11_85 (by decide) rfl (by decide) rfl dX11_shop_31 ?_
  refine g_icmp_ge (tgt := 54) dX11_shop_34 (by decide) (fun c1 => ?_) (fun c1 => ?_)
  · have h := h.1 c1
    refine g_iconst dX11_shop_54 (by decide) ?_
    refine g_istore_n (ls' := [some (.inr 73), some (.inl x1), some (.inl 0)]) dX11_shop_55 rfl (by decide) rfl ?_
    exact h
  · have h := h.2 c1
    refine g_iload_n dX11_shop_37 rfl rfl ?_
    refine g_iconst dX11_shop_38 (by decide) ?_
    refine g_aload_n dX11_shop_39 rfl rfl ?_
    refine g_getR (r' := 77) flX11_24 (by decide) rfl (by decide) rfl dX11_shop_40 ?_
    refine g_iload_n dX11_shop_43 rfl rfl ?_
    obtain ⟨p2, h⟩ := h
    obtain ⟨p3, h⟩ := h
    refine g_iald (by decide) rfl p2 p3 dX11_shop_44 ?_
    refine g_ishl dX11_shop_45 ?_
    refine g_ior dX11_shop_46 ?_
    refine g_istore_n (ls' := [some (.inr 73), some (.inl (ior x1 (ishl 1 (σ 77 (x2).toNat)))), some (.inl x2)]) dX11_shop_47 rfl (by decide) rfl ?_
    obtain ⟨p4, h⟩ := h
    refine g_iinc (ls' := [some (.inr 73), some (.inl (ior x1 (ishl 1 (σ 77 (x2).toNat)))), some (.inl (x2 + 1))]) dX11_shop_48 (by decide) rfl p4 rfl ?_
    refine g_goto (tgt := 29) dX11_shop_51 (by decide) ?_
    exact h
set_option maxRecDepth 100000 in
theorem rX11_shop_56 {x1 x2 : Int}  {σ : Mem} {Q : Int → Mem → Prop} (h : ((iand (ishr x1 x2) 1) ≠ 1 → ((0 ≤ (σ 73 5)) ∧ ((((σ 73 5) < 5) ∧ (((inR ((σ 73 5) + 1)) ∧ (((inR (((σ 73 5) + 1) - 1)) ∧ (Q (((σ 73 5) + 1) - 1) (mu (mu (mu σ 77 ((σ 73 5)).toNat x2) 79 ((σ 73 5)).toNat 1) 73 5 ((σ 73 5) + 1))))))))))) ∧ ((iand (ishr x1 x2) 1) = 1 → ((inR (x2 + 1)) ∧ (GO none mX11_shop 56 [some (.inr 73), some (.inl x1), some (.inl (x2 + 1))] [] σ Q)))) : GO none mX11_shop 56 [some (.inr 73), some (.inl x1), some (.inl x2)] [] σ Q := by
  refine g_iload_n dX11_shop_56 rfl rfl ?_
  refine g_iload_n dX11_shop_57 rfl rfl ?_
  refine g_ishr dX11_shop_58 ?_
  refine g_iconst dX11_shop_59 (by decide) ?_
  refine g_iand dX11_shop_60 ?_
  refine g_iconst dX11_shop_61 (by decide) ?_
  refine g_icmp_ne (tgt := 71) dX11_shop_62 (by decide) (fun c1 => ?_) (fun c1 => ?_)
  · have h := h.1 c1
    refine g_aload_n dX11_shop_71 rfl rfl ?_
    refine g_getR (r' := 77) flX11_24 (by decide) rfl (by decide) rfl dX11_shop_72 ?_
    refine g_aload_n dX11_shop_75 rfl rfl ?_
    refine g_getI flX11_85 (by decide) rfl (by decide) rfl dX11_shop_76 ?_
    refine g_iload_n dX11_shop_79 rfl rfl ?_
    obtain ⟨p2, h⟩ := h
    obtain ⟨p3, h⟩ := h
    refine g_iast (by decide) rfl p2 p3 dX11_shop_80 ?_
    refine g_aload_n dX11_shop_81 rfl rfl ?_
    refine g_getR (r' := 79) flX11_30 (by decide) rfl (by decide) rfl dX11_shop_82 ?_
    refine g_aload_n dX11_shop_85 rfl rfl ?_
    refine g_getI flX11_85 (by decide) rfl (by decide) rfl dX11_shop_86 ?_
    refine g_top (w := (σ 73 5)) rfl ?_
    refine g_iconst dX11_shop_89 (by decide) ?_
    refine g_iast (by decide) rfl p2 p3 dX11_shop_90 ?_
    refine g_aload_n dX11_shop_91 rfl rfl ?_
    refine g_dup dX11_shop_92 ?_
    refine g_getI flX11_85 (by decide) rfl (by decide) rfl dX11_shop_93 ?_
    refine g_top (w := (σ 73 5)) rfl ?_
    refine g_iconst dX11_shop_96 (by decide) ?_
    obtain ⟨p4, h⟩ := h
    refine g_iadd dX11_shop_97 p4 ?_
    refine g_putI fpX11_85 (by decide) rfl (by decide) rfl (Or.inl rfl) dX11_shop_98 ?_
    refine g_aload_n dX11_shop_101 rfl rfl ?_
    refine g_getI flX11_85 (by decide) rfl (by decide) rfl dX11_shop_102 ?_
    refine g_top (w := ((σ 73 5) + 1)) rfl ?_
    refine g_iconst dX11_shop_105 (by decide) ?_
    obtain ⟨p5, h⟩ := h
    refine g_isub dX11_shop_106 p5 ?_
    exact g_ireturn rfl dX11_shop_107 h
  · have h := h.2 c1
    obtain ⟨p6, h⟩ := h
    refine g_iinc (ls' := [some (.inr 73), some (.inl x1), some (.inl (x2 + 1))]) dX11_shop_65 (by decide) rfl p6 rfl ?_
    refine g_goto (tgt := 56) dX11_shop_68 (by decide) ?_
    exact h
set_option maxRecDepth 100000 in
theorem rX11_load_0 {x1 x2 x3 x4 : Int}  {σ : Mem} {Q : Int → Mem → Prop} (h : (¬ (0 ≤ x1 ∧ x1 < 4) → Q (-2) σ) ∧ (0 ≤ x1 ∧ x1 < 4 → ((inR ((σ 73 5) - 1)) ∧ ((¬ (0 ≤ x2 ∧ x2 < σ 73 5) → Q (-2) σ) ∧ (0 ≤ x2 ∧ x2 < σ 73 5 → (¬ (0 ≤ x3 ∧ x3 < σ 73 5) → Q (-2) σ) ∧ (0 ≤ x3 ∧ x3 < σ 73 5 → (x2 = x3 → Q (-2) σ) ∧ (x2 ≠ x3 → (0 ≤ x4 ∧ x4 ≤ 99 → ((inR (25 * x1)) ∧ (((inR (5 * x2)) ∧ (((inR ((25 * x1) + (5 * x2))) ∧ (((inR (((25 * x1) + (5 * x2)) + x3)) ∧ (((0 ≤ (((25 * x1) + (5 * x2)) + x3)) ∧ ((((((25 * x1) + (5 * x2)) + x3) < 100) ∧ (Q (σ 78 ((((25 * x1) + (5 * x2)) + x3)).toNat) (mu σ 78 ((((25 * x1) + (5 * x2)) + x3)).toNat x4)))))))))))))) ∧ (¬ (0 ≤ x4 ∧ x4 ≤ 99) → Q (-2) σ)))))))) : CM mX11_load [.inr 73, .inl x1, .inl x2, .inl x3, .inl x4] σ Q := by
  refine CM_of_GO (by decide +kernel) rfl (Nat.le_of_ble_eq_true rfl) ?_
  show GO none mX11_load 0 [some (.inr 73), some (.inl x1), some (.inl x2), some (.inl x3), some (.inl x4), none, none] [] σ Q
  refine g_iload_n dX11_load_0 rfl rfl ?_
  refine g_invSI (as := [.inl x1]) (rest := []) okX11_isYear rfl mlX11_107 rfl ⟨Nat.le_of_ble_eq_true rfl, Nat.le_of_ble_eq_true rfl⟩ (Nat.le_of_ble_eq_true rfl) rfl dX11_load_1 (c_X11_isYear) (Or.inr rfl) (fun v1 σ2 e3 => ?_)
  obtain ⟨e3a, e3b⟩ := e3; subst v1; subst σ2
  refine g_if_eq (tgt := 39) dX11_load_4 (by decide) (fun c4 => ?_) (fun c4 => ?_)
  · have h := h.1 (ite_no c4)
    refine g_bipush dX11_load_39 (by decide) (by decide) ?_
    exact g_ireturn rfl dX11_load_41 h
  · have h := h.2 (ite_yes c4)
    refine g_aload_n dX11_load_7 rfl rfl ?_
    refine g_iload_n dX11_load_8 rfl rfl ?_
    obtain ⟨p5, h⟩ := h
    refine g_invVI (as := [.inl x2]) (rest := []) okX11_isShop mlX11_110 (by decide) rfl ⟨_, _, rfl⟩ rfl ⟨Nat.le_of_ble_eq_true rfl, Nat.le_of_ble_eq_true rfl⟩ (Nat.le_of_ble_eq_true rfl) rfl dX11_load_9 (c_X11_isShop p5) (Or.inr rfl) (fun v6 σ7 e8 => ?_)
    obtain ⟨e8a, e8b⟩ := e8; subst v6; subst σ7
    refine g_if_eq (tgt := 39) dX11_load_12 (by decide) (fun c9 => ?_) (fun c9 => ?_)
    · have h := h.1 (ite_no c9)
      refine g_bipush dX11_load_39 (by decide) (by decide) ?_
      exact g_ireturn rfl dX11_load_41 h
    · have h := h.2 (ite_yes c9)
      refine g_aload_n dX11_load_15 rfl rfl ?_
      refine g_iload_n dX11_load_16 rfl rfl ?_
      refine g_invVI (as := [.inl x3]) (rest := []) okX11_isShop mlX11_110 (by decide) rfl ⟨_, _, rfl⟩ rfl ⟨Nat.le_of_ble_eq_true rfl, Nat.le_of_ble_eq_true rfl⟩ (Nat.le_of_ble_eq_true rfl) rfl dX11_load_17 (c_X11_isShop p5) (Or.inr rfl) (fun v10 σ11 e12 => ?_)
      obtain ⟨e12a, e12b⟩ := e12; subst v10; subst σ11
      refine g_if_eq (tgt := 39) dX11_load_20 (by decide) (fun c13 => ?_) (fun c13 => ?_)
      · have h := h.1 (ite_no c13)
        refine g_bipush dX11_load_39 (by decide) (by decide) ?_
        exact g_ireturn rfl dX11_load_41 h
      · have h := h.2 (ite_yes c13)
        refine g_iload_n dX11_load_23 rfl rfl ?_
        refine g_iload_n dX11_load_24 rfl rfl ?_
        refine g_icmp_eq (tgt := 39) dX11_load_25 (by decide) (fun c14 => ?_) (fun c14 => ?_)
        · have h := h.1 c14
          refine g_bipush dX11_load_39 (by decide) (by decide) ?_
          exact g_ireturn rfl dX11_load_41 h
        · have h := h.2 c14
          refine g_iload dX11_load_28 rfl ?_
          refine g_iconst dX11_load_30 (by decide) ?_
          refine g_bipush dX11_load_31 (by decide) (by decide) ?_
          refine g_invSI (as := [.inl x4, .inl 0, .inl 99]) (rest := []) okX11_in rfl mlX11_78 rfl ⟨Nat.le_of_ble_eq_true rfl, Nat.le_of_ble_eq_true rfl⟩ (Nat.le_of_ble_eq_true rfl) rfl dX11_load_33 (c_X11_in) (Or.inr rfl) (fun v15 σ16 e17 => ?_)
          obtain ⟨e17a, e17b⟩ := e17; subst v15; subst σ16
          refine g_if_ne (tgt := 42) dX11_load_36 (by decide) (fun c18 => ?_) (fun c18 => ?_)
          · have h := h.1 (ite_yes c18)
            refine g_bipush dX11_load_42 (by decide) (by decide) ?_
            refine g_iload_n dX11_load_44 rfl rfl ?_
            obtain ⟨p19, h⟩ := h
            refine g_imul dX11_load_45 p19 ?_
            refine g_iconst dX11_load_46 (by decide) ?_
            refine g_iload_n dX11_load_47 rfl rfl ?_
            obtain ⟨p20, h⟩ := h
            refine g_imul dX11_load_48 p20 ?_
            obtain ⟨p21, h⟩ := h
            refine g_iadd dX11_load_49 p21 ?_
            refine g_iload_n dX11_load_50 rfl rfl ?_
            obtain ⟨p22, h⟩ := h
            refine g_iadd dX11_load_51 p22 ?_
            refine g_istore (ls' := [some (.inr 73), some (.inl x1), some (.inl x2), some (.inl x3), some (.inl x4), some (.inl (((25 * x1) + (5 * x2)) + x3)), none]) dX11_load_52 (by decide) rfl ?_
            refine g_aload_n dX11_load_54 rfl rfl ?_
            refine g_getR (r' := 78) flX11_27 (by decide) rfl (by decide) rfl dX11_load_55 ?_
            refine g_iload dX11_load_58 rfl ?_
            obtain ⟨p23, h⟩ := h
            obtain ⟨p24, h⟩ := h
            refine g_iald (by decide) rfl p23 p24 dX11_load_60 ?_
            refine g_istore (ls' := [some (.inr 73), some (.inl x1), some (.inl x2), some (.inl x3), some (.inl x4), some (.inl (((25 * x1) + (5 * x2)) + x3)), some (.inl (σ 78 ((((25 * x1) + (5 * x2)) + x3)).toNat))]) dX11_load_61 (by decide) rfl ?_
            refine g_aload_n dX11_load_63 rfl rfl ?_
            refine g_getR (r' := 78) flX11_27 (by decide) rfl (by decide) rfl dX11_load_64 ?_
            refine g_iload dX11_load_67 rfl ?_
            refine g_iload dX11_load_69 rfl ?_
            refine g_iast (by decide) rfl p23 p24 dX11_load_71 ?_
            refine g_iload dX11_load_72 rfl ?_
            exact g_ireturn rfl dX11_load_74 h
          · have h := h.2 (ite_no c18)
            refine g_bipush dX11_load_39 (by decide) (by decide) ?_
            exact g_ireturn rfl dX11_load_41 h
set_option maxRecDepth 100000 in
theorem rX11_weight_0 {x1 x2 : Int}  {σ : Mem} {Q : Int → Mem → Prop} (h : ((inR ((σ 73 5) - 1)) ∧ ((¬ (0 ≤ x1 ∧ x1 < σ 73 5) → Q (-2) σ) ∧ (0 ≤ x1 ∧ x1 < σ 73 5 → (1 ≤ x2 ∧ x2 ≤ 50 → ((0 ≤ x1) ∧ (((x1 < 5) ∧ (Q (σ 79 (x1).toNat) (mu σ 79 (x1).toNat x2)))))) ∧ (¬ (1 ≤ x2 ∧ x2 ≤ 50) → Q (-2) σ))))) : CM mX11_weight [.inr 73, .inl x1, .inl x2] σ Q := by
  refine CM_of_GO (by decide +kernel) rfl (Nat.le_of_ble_eq_true rfl) ?_
  show GO none mX11_weight 0 [some (.inr 73), some (.inl x1), some (.inl x2), none] [] σ Q
  refine g_aload_n dX11_weight_0 rfl rfl ?_
  refine g_iload_n dX11_weight_1 rfl rfl ?_
  obtain ⟨p1, h⟩ := h
  refine g_invVI (as := [.inl x1]) (rest := []) okX11_isShop mlX11_110 (by decide) rfl ⟨_, _, rfl⟩ rfl ⟨Nat.le_of_ble_eq_true rfl, Nat.le_of_ble_eq_true rfl⟩ (Nat.le_of_ble_eq_true rfl) rfl dX11_weight_2 (c_X11_isShop p1) (Or.inr rfl) (fun v2 σ3 e4 => ?_)
  obtain ⟨e4a, e4b⟩ := e4; subst v2; subst σ3
  refine g_if_eq (tgt := 18) dX11_weight_5 (by decide) (fun c5 => ?_) (fun c5 => ?_)
  · have h := h.1 (ite_no c5)
    refine g_bipush dX11_weight_18 (by decide) (by decide) ?_
    exact g_ireturn rfl dX11_weight_20 h
  · have h := h.2 (ite_yes c5)
    refine g_iload_n dX11_weight_8 rfl rfl ?_
    refine g_iconst dX11_weight_9 (by decide) ?_
    refine g_bipush dX11_weight_10 (by decide) (by decide) ?_
    refine g_invSI (as := [.inl x2, .inl 1, .inl 50]) (rest := []) okX11_in rfl mlX11_78 rfl ⟨Nat.le_of_ble_eq_true rfl, Nat.le_of_ble_eq_true rfl⟩ (Nat.le_of_ble_eq_true rfl) rfl dX11_weight_12 (c_X11_in) (Or.inr rfl) (fun v6 σ7 e8 => ?_)
    obtain ⟨e8a, e8b⟩ := e8; subst v6; subst σ7
    refine g_if_ne (tgt := 21) dX11_weight_15 (by decide) (fun c9 => ?_) (fun c9 => ?_)
    · have h := h.1 (ite_yes c9)
      refine g_aload_n dX11_weight_21 rfl rfl ?_
      refine g_getR (r' := 79) flX11_30 (by decide) rfl (by decide) rfl dX11_weight_22 ?_
      refine g_iload_n dX11_weight_25 rfl rfl ?_
      obtain ⟨p10, h⟩ := h
      obtain ⟨p11, h⟩ := h
      refine g_iald (by decide) rfl p10 p11 dX11_weight_26 ?_
      refine g_istore_n (ls' := [some (.inr 73), some (.inl x1), some (.inl x2), some (.inl (σ 79 (x1).toNat))]) dX11_weight_27 rfl (by decide) rfl ?_
      refine g_aload_n dX11_weight_28 rfl rfl ?_
      refine g_getR (r' := 79) flX11_30 (by decide) rfl (by decide) rfl dX11_weight_29 ?_
      refine g_iload_n dX11_weight_32 rfl rfl ?_
      refine g_iload_n dX11_weight_33 rfl rfl ?_
      refine g_iast (by decide) rfl p10 p11 dX11_weight_34 ?_
      refine g_iload_n dX11_weight_35 rfl rfl ?_
      exact g_ireturn rfl dX11_weight_36 h
    · have h := h.2 (ite_no c9)
      refine g_bipush dX11_weight_18 (by decide) (by decide) ?_
      exact g_ireturn rfl dX11_weight_20 h
set_option maxRecDepth 100000 in
theorem rX11_wish_0 {x1 x2 x3 x4 : Int}  {σ : Mem} {Q : Int → Mem → Prop} (h : ((inR ((σ 73 5) - 1)) ∧ ((¬ (0 ≤ x1 ∧ x1 < σ 73 5) → Q (-2) σ) ∧ (0 ≤ x1 ∧ x1 < σ 73 5 → (¬ (0 ≤ x2 ∧ x2 < σ 73 5) → Q (-2) σ) ∧ (0 ≤ x2 ∧ x2 < σ 73 5 → (x1 = x2 → Q (-2) σ) ∧ (x1 ≠ x2 → (0 ≤ x4 ∧ x4 ≤ 20 → ((σ 73 9) ≠ 6 → ((0 ≤ (σ 73 9)) ∧ ((((σ 73 9) < 6) ∧ (((x3 = 0 ∨ x3 = 1) ∧ (((inR ((σ 73 9) + 1)) ∧ (((inR (((σ 73 9) + 1) - 1)) ∧ (Q (((σ 73 9) + 1) - 1) (mu (mu (mu (mu (mu σ 80 ((σ 73 9)).toNat x1) 81 ((σ 73 9)).toNat x2) 82 ((σ 73 9)).toNat x3) 83 ((σ 73 9)).toNat x4) 73 9 ((σ 73 9) + 1))))))))))))) ∧ ((σ 73 9) = 6 → Q (-4) σ)) ∧ (¬ (0 ≤ x4 ∧ x4 ≤ 20) → Q (-2) σ))))))) : CM mX11_wish [.inr 73, .inl x1, .inl x2, .inl x3, .inl x4] σ Q := by
  refine CM_of_GO (by decide +kernel) rfl (Nat.le_of_ble_eq_true rfl) ?_
  show GO none mX11_wish 0 [some (.inr 73), some (.inl x1), some (.inl x2), some (.inl x3), some (.inl x4)] [] σ Q
  refine g_aload_n dX11_wish_0 rfl rfl ?_
  refine g_iload_n dX11_wish_1 rfl rfl ?_
  obtain ⟨p1, h⟩ := h
  refine g_invVI (as := [.inl x1]) (rest := []) okX11_isShop mlX11_110 (by decide) rfl ⟨_, _, rfl⟩ rfl ⟨Nat.le_of_ble_eq_true rfl, Nat.le_of_ble_eq_true rfl⟩ (Nat.le_of_ble_eq_true rfl) rfl dX11_wish_2 (c_X11_isShop p1) (Or.inr rfl) (fun v2 σ3 e4 => ?_)
  obtain ⟨e4a, e4b⟩ := e4; subst v2; subst σ3
  refine g_if_eq (tgt := 32) dX11_wish_5 (by decide) (fun c5 => ?_) (fun c5 => ?_)
  · have h := h.1 (ite_no c5)
    refine g_bipush dX11_wish_32 (by decide) (by decide) ?_
    exact g_ireturn rfl dX11_wish_34 h
  · have h := h.2 (ite_yes c5)
    refine g_aload_n dX11_wish_8 rfl rfl ?_
    refine g_iload_n dX11_wish_9 rfl rfl ?_
    refine g_invVI (as := [.inl x2]) (rest := []) okX11_isShop mlX11_110 (by decide) rfl ⟨_, _, rfl⟩ rfl ⟨Nat.le_of_ble_eq_true rfl, Nat.le_of_ble_eq_true rfl⟩ (Nat.le_of_ble_eq_true rfl) rfl dX11_wish_10 (c_X11_isShop p1) (Or.inr rfl) (fun v6 σ7 e8 => ?_)
    obtain ⟨e8a, e8b⟩ := e8; subst v6; subst σ7
    refine g_if_eq (tgt := 32) dX11_wish_13 (by decide) (fun c9 => ?_) (fun c9 => ?_)
    · have h := h.1 (ite_no c9)
      refine g_bipush dX11_wish_32 (by decide) (by decide) ?_
      exact g_ireturn rfl dX11_wish_34 h
    · have h := h.2 (ite_yes c9)
      refine g_iload_n dX11_wish_16 rfl rfl ?_
      refine g_iload_n dX11_wish_17 rfl rfl ?_
      refine g_icmp_eq (tgt := 32) dX11_wish_18 (by decide) (fun c10 => ?_) (fun c10 => ?_)
      · have h := h.1 c10
        refine g_bipush dX11_wish_32 (by decide) (by decide) ?_
        exact g_ireturn rfl dX11_wish_34 h
      · have h := h.2 c10
        refine g_iload dX11_wish_21 rfl ?_
        refine g_iconst dX11_wish_23 (by decide) ?_
        refine g_bipush dX11_wish_24 (by decide) (by decide) ?_
        refine g_invSI (as := [.inl x4, .inl 0, .inl 20]) (rest := []) okX11_in rfl mlX11_78 rfl ⟨Nat.le_of_ble_eq_true rfl, Nat.le_of_ble_eq_true rfl⟩ (Nat.le_of_ble_eq_true rfl) rfl dX11_wish_26 (c_X11_in) (Or.inr rfl) (fun v11 σ12 e13 => ?_)
        obtain ⟨e13a, e13b⟩ := e13; subst v11; subst σ12
        refine g_if_ne (tgt := 35) dX11_wish_29 (by decide) (fun c14 => ?_) (fun c14 => ?_)
        · have h := h.1 (ite_yes c14)
          refine g_aload_n dX11_wish_35 rfl rfl ?_
          refine g_getI flX11_113 (by decide) rfl (by decide) rfl dX11_wish_36 ?_
          refine g_bipush dX11_wish_39 (by decide) (by decide) ?_
          refine g_icmp_ne (tgt := 47) dX11_wish_41 (by decide) (fun c15 => ?_) (fun c15 => ?_)
          · have h := h.1 c15
            refine g_aload_n dX11_wish_47 rfl rfl ?_
            refine g_getR (r' := 80) flX11_33 (by decide) rfl (by decide) rfl dX11_wish_48 ?_
            refine g_aload_n dX11_wish_51 rfl rfl ?_
            refine g_getI flX11_113 (by decide) rfl (by decide) rfl dX11_wish_52 ?_
            refine g_iload_n dX11_wish_55 rfl rfl ?_
            obtain ⟨p16, h⟩ := h
            obtain ⟨p17, h⟩ := h
            refine g_iast (by decide) rfl p16 p17 dX11_wish_56 ?_
            refine g_aload_n dX11_wish_57 rfl rfl ?_
            refine g_getR (r' := 81) flX11_36 (by decide) rfl (by decide) rfl dX11_wish_58 ?_
            refine g_aload_n dX11_wish_61 rfl rfl ?_
            refine g_getI flX11_113 (by decide) rfl (by decide) rfl dX11_wish_62 ?_
            refine g_top (w := (σ 73 9)) rfl ?_
            refine g_iload_n dX11_wish_65 rfl rfl ?_
            refine g_iast (by decide) rfl p16 p17 dX11_wish_66 ?_
            refine g_aload_n dX11_wish_67 rfl rfl ?_
            refine g_getR (r' := 82) flX11_39 (by decide) rfl (by decide) rfl dX11_wish_68 ?_
            refine g_aload_n dX11_wish_71 rfl rfl ?_
            refine g_getI flX11_113 (by decide) rfl (by decide) rfl dX11_wish_72 ?_
            refine g_top (w := (σ 73 9)) rfl ?_
            refine g_iload_n dX11_wish_75 rfl rfl ?_
            obtain ⟨p18, h⟩ := h
            refine g_zast (by decide) rfl p16 p17 p18 dX11_wish_76 ?_
            refine g_aload_n dX11_wish_77 rfl rfl ?_
            refine g_getR (r' := 83) flX11_42 (by decide) rfl (by decide) rfl dX11_wish_78 ?_
            refine g_aload_n dX11_wish_81 rfl rfl ?_
            refine g_getI flX11_113 (by decide) rfl (by decide) rfl dX11_wish_82 ?_
            refine g_top (w := (σ 73 9)) rfl ?_
            refine g_iload dX11_wish_85 rfl ?_
            refine g_iast (by decide) rfl p16 p17 dX11_wish_87 ?_
            refine g_aload_n dX11_wish_88 rfl rfl ?_
            refine g_dup dX11_wish_89 ?_
            refine g_getI flX11_113 (by decide) rfl (by decide) rfl dX11_wish_90 ?_
            refine g_top (w := (σ 73 9)) rfl ?_
            refine g_iconst dX11_wish_93 (by decide) ?_
            obtain ⟨p19, h⟩ := h
            refine g_iadd dX11_wish_94 p19 ?_
            refine g_putI fpX11_113 (by decide) rfl (by decide) rfl (Or.inl rfl) dX11_wish_95 ?_
            refine g_aload_n dX11_wish_98 rfl rfl ?_
            refine g_getI flX11_113 (by decide) rfl (by decide) rfl dX11_wish_99 ?_
            refine g_top (w := ((σ 73 9) + 1)) rfl ?_
            refine g_iconst dX11_wish_102 (by decide) ?_
            obtain ⟨p20, h⟩ := h
            refine g_isub dX11_wish_103 p20 ?_
            exact g_ireturn rfl dX11_wish_104 h
          · have h := h.2 c15
            refine g_bipush dX11_wish_44 (by decide) (by decide) ?_
            exact g_ireturn rfl dX11_wish_46 h
        · have h := h.2 (ite_no c14)
          refine g_bipush dX11_wish_32 (by decide) (by decide) ?_
          exact g_ireturn rfl dX11_wish_34 h
set_option maxRecDepth 100000 in
theorem rX11_unwish_0 {x1 : Int}  {σ : Mem} {Q : Int → Mem → Prop} (h : ((inR ((σ 73 9) - 1)) ∧ ((0 ≤ x1 ∧ x1 ≤ ((σ 73 9) - 1) → GO none mX11_unwish 29 [some (.inr 73), some (.inl x1), some (.inl x1)] [] (mu σ 73 9 ((σ 73 9) - 1)) Q) ∧ (¬ (0 ≤ x1 ∧ x1 ≤ ((σ 73 9) - 1)) → Q (-2) σ)))) : CM mX11_unwish [.inr 73, .inl x1] σ Q := by
  refine CM_of_GO (by decide +kernel) rfl (Nat.le_of_ble_eq_true rfl) ?_
  show GO none mX11_unwish 0 [some (.inr 73), some (.inl x1), none] [] σ Q
  refine g_iload_n dX11_unwish_0 rfl rfl ?_
  refine g_iconst dX11_unwish_1 (by decide) ?_
  refine g_aload_n dX11_unwish_2 rfl rfl ?_
  refine g_getI flX11_113 (by decide) rfl (by decide) rfl dX11_unwish_3 ?_
  refine g_iconst dX11_unwish_6 (by decide) ?_
  obtain ⟨p1, h⟩ := h
  refine g_isub dX11_unwish_7 p1 ?_
  refine g_invSI (as := [.inl x1, .inl 0, .inl ((σ 73 9) - 1)]) (rest := []) okX11_in rfl mlX11_78 rfl ⟨Nat.le_of_ble_eq_true rfl, Nat.le_of_ble_eq_true rfl⟩ (Nat.le_of_ble_eq_true rfl) rfl dX11_unwish_8 (c_X11_in) (Or.inr rfl) (fun v2 σ3 e4 => ?_)
  obtain ⟨e4a, e4b⟩ := e4; subst v2; subst σ3
  refine g_if_ne (tgt := 17) dX11_unwish_11 (by decide) (fun c5 => ?_) (fun c5 => ?_)
  · have h := h.1 (ite_yes c5)
    refine g_aload_n dX11_unwish_17 rfl rfl ?_
    refine g_dup dX11_unwish_18 ?_
    refine g_getI flX11_113 (by decide) rfl (by decide) rfl dX11_unwish_19 ?_
    refine g_iconst dX11_unwish_22 (by decide) ?_
    refine g_isub dX11_unwish_23 p1 ?_
    refine g_putI fpX11_113 (by decide) rfl (by decide) rfl (Or.inl rfl) dX11_unwish_24 ?_
    refine g_iload_n dX11_unwish_27 rfl rfl ?_
    refine g_istore_n (ls' := [some (.inr 73), some (.inl x1), some (.inl x1)]) dX11_unwish_28 rfl (by decide) rfl ?_
    exact h
  · have h := h.2 (ite_no c5)
    refine g_bipush dX11_unwish_14 (by decide) (by decide) ?_
    exact g_ireturn rfl dX11_unwish_16 h
set_option maxRecDepth 100000 in
theorem rX11_unwish_29 {x1 x2 : Int}  {σ : Mem} {Q : Int → Mem → Prop} (h : ((σ 73 9) ≤ x2 → Q 1 σ) ∧ (x2 < (σ 73 9) → ((inR (x2 + 1)) ∧ (((0 ≤ (x2 + 1)) ∧ ((((x2 + 1) < 6) ∧ (((0 ≤ x2) ∧ (((x2 < 6) ∧ ((((σ 82 ((x2 + 1)).toNat) = 0 ∨ (σ 82 ((x2 + 1)).toNat) = 1) ∧ (GO none mX11_unwish 29 [some (.inr 73), some (.inl x1), some (.inl (x2 + 1))] [] (mu (mu (mu (mu σ 80 (x2).toNat (σ 80 ((x2 + 1)).toNat)) 81 (x2).toNat (σ 81 ((x2 + 1)).toNat)) 82 (x2).toNat (σ 82 ((x2 + 1)).toNat)) 83 (x2).toNat (σ 83 ((x2 + 1)).toNat)) Q)))))))))))))) : GO none mX11_unwish 29 [some (.inr 73), some (.inl x1), some (.inl x2)] [] σ Q := by
  refine g_iload_n dX11_unwish_29 rfl rfl ?_
  refine g_aload_n dX11_unwish_30 rfl rfl ?_
  refine g_getI flX11_113 (by decide) rfl (by decide) rfl dX11_unwish_31 ?_
  refine g_icmp_ge (tgt := 99) dX11_unwish_34 (by decide) (fun c1 => ?_) (fun c1 => ?_)
  · have h := h.1 c1
    refine g_iconst dX11_unwish_99 (by decide) ?_
    exact g_ireturn rfl dX11_unwish_100 h
  · have h := h.2 c1
    refine g_aload_n dX11_unwish_37 rfl rfl ?_
    refine g_getR (r' := 80) flX11_33 (by decide) rfl (by decide) rfl dX11_unwish_38 ?_
    refine g_iload_n dX11_unwish_41 rfl rfl ?_
    refine g_aload_n dX11_unwish_42 rfl rfl ?_
    refine g_getR (r' := 80) flX11_33 (by decide) rfl (by decide) rfl dX11_unwish_43 ?_
    refine g_iload_n dX11_unwish_46 rfl rfl ?_
    refine g_iconst dX11_unwish_47 (by decide) ?_
    obtain ⟨p2, h⟩ := h
    refine g_iadd dX11_unwish_48 p2 ?_
    obtain ⟨p3, h⟩ := h
    obtain ⟨p4, h⟩ := h
    refine g_iald (by decide) rfl p3 p4 dX11_unwish_49 ?_
    obtain ⟨p5, h⟩ := h
    obtain ⟨p6, h⟩ := h
    refine g_iast (by decide) rfl p5 p6 dX11_unwish_50 ?_
    refine g_aload_n dX11_unwish_51 rfl rfl ?_
    refine g_getR (r' := 81) flX11_36 (by decide) rfl (by decide) rfl dX11_unwish_52 ?_
    refine g_iload_n dX11_unwish_55 rfl rfl ?_
    refine g_aload_n dX11_unwish_56 rfl rfl ?_
    refine g_getR (r' := 81) flX11_36 (by decide) rfl (by decide) rfl dX11_unwish_57 ?_
    refine g_iload_n dX11_unwish_60 rfl rfl ?_
    refine g_iconst dX11_unwish_61 (by decide) ?_
    refine g_iadd dX11_unwish_62 p2 ?_
    refine g_iald (by decide) rfl p3 p4 dX11_unwish_63 ?_
    refine g_top (w := (σ 81 ((x2 + 1)).toNat)) rfl ?_
    refine g_iast (by decide) rfl p5 p6 dX11_unwish_64 ?_
    refine g_aload_n dX11_unwish_65 rfl rfl ?_
    refine g_getR (r' := 82) flX11_39 (by decide) rfl (by decide) rfl dX11_unwish_66 ?_
    refine g_iload_n dX11_unwish_69 rfl rfl ?_
    refine g_aload_n dX11_unwish_70 rfl rfl ?_
    refine g_getR (r' := 82) flX11_39 (by decide) rfl (by decide) rfl dX11_unwish_71 ?_
    refine g_iload_n dX11_unwish_74 rfl rfl ?_
    refine g_iconst dX11_unwish_75 (by decide) ?_
    refine g_iadd dX11_unwish_76 p2 ?_
    refine g_zald (by decide) rfl p3 p4 dX11_unwish_77 ?_
    refine g_top (w := (σ 82 ((x2 + 1)).toNat)) rfl ?_
    obtain ⟨p7, h⟩ := h
    refine g_zast (by decide) rfl p5 p6 p7 dX11_unwish_78 ?_
    refine g_aload_n dX11_unwish_79 rfl rfl ?_
    refine g_getR (r' := 83) flX11_42 (by decide) rfl (by decide) rfl dX11_unwish_80 ?_
    refine g_iload_n dX11_unwish_83 rfl rfl ?_
    refine g_aload_n dX11_unwish_84 rfl rfl ?_
    refine g_getR (r' := 83) flX11_42 (by decide) rfl (by decide) rfl dX11_unwish_85 ?_
    refine g_iload_n dX11_unwish_88 rfl rfl ?_
    refine g_iconst dX11_unwish_89 (by decide) ?_
    refine g_iadd dX11_unwish_90 p2 ?_
    refine g_iald (by decide) rfl p3 p4 dX11_unwish_91 ?_
    refine g_top (w := (σ 83 ((x2 + 1)).toNat)) rfl ?_
    refine g_iast (by decide) rfl p5 p6 dX11_unwish_92 ?_
    refine g_iinc (ls' := [some (.inr 73), some (.inl x1), some (.inl (x2 + 1))]) dX11_unwish_93 (by decide) rfl p2 rfl ?_
    refine g_goto (tgt := 29) dX11_unwish_96 (by decide) ?_
    exact h
set_option maxRecDepth 100000 in
theorem rX11_count_0 {x1 : Int}  {σ : Mem} {Q : Int → Mem → Prop} (h : (x1 < 0 ∨ 4 < x1 → Q (-2) σ) ∧ (x1 = 0 → Q (σ 73 2) σ) ∧ (x1 = 1 → Q (σ 73 5) σ) ∧ (x1 = 2 → Q (σ 73 9) σ) ∧ (x1 = 3 → GO none mX11_count 53 [some (.inr 73), some (.inl x1), some (.inl 0), some (.inl 0)] [] σ Q) ∧ (x1 = 4 → GO none mX11_count 88 [some (.inr 73), some (.inl x1), some (.inl 0), some (.inl 0)] [] σ Q)) : CM mX11_count [.inr 73, .inl x1] σ Q := by
  refine CM_of_GO (by decide +kernel) rfl (Nat.le_of_ble_eq_true rfl) ?_
  show GO none mX11_count 0 [some (.inr 73), some (.inl x1), none, none] [] σ Q
  refine g_iconst dX11_count_0 (by decide) ?_
  refine g_istore_n (ls' := [some (.inr 73), some (.inl x1), some (.inl 0), none]) dX11_count_1 rfl (by decide) rfl ?_
  refine g_iload_n dX11_count_2 rfl rfl ?_
  refine g_table dX11_count_3 (fun c9 => ⟨119, by decide, ?_⟩) (fun c8 c9 => ?_)
  · have h := h.1 c9
    refine g_bipush dX11_count_119 (by decide) (by decide) ?_
    exact g_ireturn rfl dX11_count_121 h
  · have h := h.2
    rcases (show x1 = 0 ∨ x1 = 1 ∨ x1 = 2 ∨ x1 = 3 ∨ x1 = 4 by omega) with c7 | c7 | c7 | c7 | c7
    · refine ⟨33, 36, by rw [c7]; rfl, by decide, ?_⟩
      have h := h.1 c7
      refine g_aload_n dX11_count_36 rfl rfl ?_
      refine g_getI flX11_82 (by decide) rfl (by decide) rfl dX11_count_37 ?_
      exact g_ireturn rfl dX11_count_40 h
    · refine ⟨38, 41, by rw [c7]; rfl, by decide, ?_⟩
      have h := h.2.1 c7
      refine g_aload_n dX11_count_41 rfl rfl ?_
      refine g_getI flX11_85 (by decide) rfl (by decide) rfl dX11_count_42 ?_
      exact g_ireturn rfl dX11_count_45 h
    · refine ⟨43, 46, by rw [c7]; rfl, by decide, ?_⟩
      have h := h.2.2.1 c7
      refine g_aload_n dX11_count_46 rfl rfl ?_
      refine g_getI flX11_113 (by decide) rfl (by decide) rfl dX11_count_47 ?_
      exact g_ireturn rfl dX11_count_50 h
    · refine ⟨48, 51, by rw [c7]; rfl, by decide, ?_⟩
      have h := h.2.2.2.1 c7
      refine g_iconst dX11_count_51 (by decide) ?_
      refine g_istore_n (ls' := [some (.inr 73), some (.inl x1), some (.inl 0), some (.inl 0)]) dX11_count_52 rfl (by decide) rfl ?_
      exact h
    · refine ⟨83, 86, by rw [c7]; rfl, by decide, ?_⟩
      have h := h.2.2.2.2 c7
      refine g_iconst dX11_count_86 (by decide) ?_
      refine g_istore_n (ls' := [some (.inr 73), some (.inl x1), some (.inl 0), some (.inl 0)]) dX11_count_87 rfl (by decide) rfl ?_
      exact h
set_option maxRecDepth 100000 in
theorem rX11_count_53 {x1 x2 x3 : Int}  {σ : Mem} {Q : Int → Mem → Prop} (h : (36 ≤ x3 → Q x2 σ) ∧ (x3 < 36 → ((0 ≤ x3) ∧ (((σ 74 (x3).toNat) ≠ (-2) → ((inR (x2 + 0)) ∧ (((inR (x3 + 1)) ∧ (GO none mX11_count 53 [some (.inr 73), some (.inl x1), some (.inl (x2 + 0)), some (.inl (x3 + 1))] [] σ Q))))) ∧ ((σ 74 (x3).toNat) = (-2) → ((inR (x2 + 1)) ∧ (((inR (x3 + 1)) ∧ (GO none mX11_count 53 [some (.inr 73), some (.inl x1), some (.inl (x2 + 1)), some (.inl (x3 + 1))] [] σ Q))))))))) : GO none mX11_count 53 [some (.inr 73), some (.inl x1), some (.inl x2), some (.inl x3)] [] σ Q := by
  refine g_iload_n dX11_count_53 rfl rfl ?_
  refine g_bipush dX11_count_54 (by decide) (by decide) ?_
  refine g_icmp_ge (tgt := 84) dX11_count_56 (by decide) (fun c1 => ?_) (fun c1 => ?_)
  · have h := h.1 c1
    refine g_iload_n dX11_count_84 rfl rfl ?_
    exact g_ireturn rfl dX11_count_85 h
  · have h := h.2 c1
    refine g_iload_n dX11_count_59 rfl rfl ?_
    refine g_aload_n dX11_count_60 rfl rfl ?_
    refine g_getR (r' := 74) flX11_7 (by decide) rfl (by decide) rfl dX11_count_61 ?_
    refine g_iload_n dX11_count_64 rfl rfl ?_
    obtain ⟨p2, h⟩ := h
    refine g_iald (by decide) rfl p2 c1 dX11_count_65 ?_
    refine g_bipush dX11_count_66 (by decide) (by decide) ?_
    refine g_icmp_ne (tgt := 75) dX11_count_68 (by decide) (fun c3 => ?_) (fun c3 => ?_)
    · have h := h.1 c3
      refine g_iconst dX11_count_75 (by decide) ?_
      obtain ⟨p4, h⟩ := h
      refine g_iadd dX11_count_76 p4 ?_
      refine g_istore_n (ls' := [some (.inr 73), some (.inl x1), some (.inl (x2 + 0)), some (.inl x3)]) dX11_count_77 rfl (by decide) rfl ?_
      obtain ⟨p5, h⟩ := h
      refine g_iinc (ls' := [some (.inr 73), some (.inl x1), some (.inl (x2 + 0)), some (.inl (x3 + 1))]) dX11_count_78 (by decide) rfl p5 rfl ?_
      refine g_goto (tgt := 53) dX11_count_81 (by decide) ?_
      exact h
    · have h := h.2 c3
      refine g_iconst dX11_count_71 (by decide) ?_
      refine g_goto (tgt := 76) dX11_count_72 (by decide) ?_
      obtain ⟨p6, h⟩ := h
      refine g_iadd dX11_count_76 p6 ?_
      refine g_istore_n (ls' := [some (.inr 73), some (.inl x1), some (.inl (x2 + 1)), some (.inl x3)]) dX11_count_77 rfl (by decide) rfl ?_
      obtain ⟨p7, h⟩ := h
      refine g_iinc (ls' := [some (.inr 73), some (.inl x1), some (.inl (x2 + 1)), some (.inl (x3 + 1))]) dX11_count_78 (by decide) rfl p7 rfl ?_
      refine g_goto (tgt := 53) dX11_count_81 (by decide) ?_
      exact h
set_option maxRecDepth 100000 in
theorem rX11_count_88 {x1 x2 x3 : Int}  {σ : Mem} {Q : Int → Mem → Prop} (h : (36 ≤ x3 → Q x2 σ) ∧ (x3 < 36 → ((0 ≤ x3) ∧ (((σ 75 (x3).toNat) = 0 → ((inR (x2 + 0)) ∧ (((inR (x3 + 1)) ∧ (GO none mX11_count 88 [some (.inr 73), some (.inl x1), some (.inl (x2 + 0)), some (.inl (x3 + 1))] [] σ Q))))) ∧ ((σ 75 (x3).toNat) ≠ 0 → ((inR (x2 + 1)) ∧ (((inR (x3 + 1)) ∧ (GO none mX11_count 88 [some (.inr 73), some (.inl x1), some (.inl (x2 + 1)), some (.inl (x3 + 1))] [] σ Q))))))))) : GO none mX11_count 88 [some (.inr 73), some (.inl x1), some (.inl x2), some (.inl x3)] [] σ Q := by
  refine g_iload_n dX11_count_88 rfl rfl ?_
  refine g_bipush dX11_count_89 (by decide) (by decide) ?_
  refine g_icmp_ge (tgt := 117) dX11_count_91 (by decide) (fun c1 => ?_) (fun c1 => ?_)
  · have h := h.1 c1
    refine g_iload_n dX11_count_117 rfl rfl ?_
    exact g_ireturn rfl dX11_count_118 h
  · have h := h.2 c1
    refine g_iload_n dX11_count_94 rfl rfl ?_
    refine g_aload_n dX11_count_95 rfl rfl ?_
    refine g_getR (r' := 75) flX11_13 (by decide) rfl (by decide) rfl dX11_count_96 ?_
    refine g_iload_n dX11_count_99 rfl rfl ?_
    obtain ⟨p2, h⟩ := h
    refine g_zald (by decide) rfl p2 c1 dX11_count_100 ?_
    refine g_if_eq (tgt := 108) dX11_count_101 (by decide) (fun c3 => ?_) (fun c3 => ?_)
    · have h := h.1 c3
      refine g_iconst dX11_count_108 (by decide) ?_
      obtain ⟨p4, h⟩ := h
      refine g_iadd dX11_count_109 p4 ?_
      refine g_istore_n (ls' := [some (.inr 73), some (.inl x1), some (.inl (x2 + 0)), some (.inl x3)]) dX11_count_110 rfl (by decide) rfl ?_
      obtain ⟨p5, h⟩ := h
      refine g_iinc (ls' := [some (.inr 73), some (.inl x1), some (.inl (x2 + 0)), some (.inl (x3 + 1))]) dX11_count_111 (by decide) rfl p5 rfl ?_
      refine g_goto (tgt := 88) dX11_count_114 (by decide) ?_
      exact h
    · have h := h.2 c3
      refine g_iconst dX11_count_104 (by decide) ?_
      refine g_goto (tgt := 109) dX11_count_105 (by decide) ?_
      obtain ⟨p6, h⟩ := h
      refine g_iadd dX11_count_109 p6 ?_
      refine g_istore_n (ls' := [some (.inr 73), some (.inl x1), some (.inl (x2 + 1)), some (.inl x3)]) dX11_count_110 rfl (by decide) rfl ?_
      obtain ⟨p7, h⟩ := h
      refine g_iinc (ls' := [some (.inr 73), some (.inl x1), some (.inl (x2 + 1)), some (.inl (x3 + 1))]) dX11_count_111 (by decide) rfl p7 rfl ?_
      refine g_goto (tgt := 88) dX11_count_114 (by decide) ?_
      exact h
theorem MI.nR {Z : Zt} {σ : Mem} (hZ : GZ Z) (h : MI Z σ) : inR ((σ 73 2) - 1) := by
  have := hZ.n6
  have := h.n
  omega
theorem MI.mR {Z : Zt} {σ : Mem} (hZ : GZ Z) (h : MI Z σ) : inR ((σ 73 5) - 1) := by
  have := hZ.m5
  have := h.m
  omega
theorem mi_kinds {Z Z' : Zt} {σ σ1 : Mem} {c : Nat} {k a e : Int} (hM : MI Z σ) (hK : ∀ d, zK Z' d = fup (zK Z) c k d) (h74 : ∀ d, σ1 74 d = if d = c then a else σ 74 d) (h75 : ∀ d, σ1 75 d = if d = c then e else σ 75 d) (hr : KR k a e) : ∀ d, d < 36 → KR (zK Z' d) (σ1 74 d) (σ1 75 d) := by
  intro d hd
  rw [hK, h74, h75]
  unfold fup
  by_cases q : d = c
  · rw [if_pos q, if_pos q, if_pos q]; exact hr
  · rw [if_neg q, if_neg q, if_neg q]; exact hM.kr d hd
theorem c_X11_column {Z Z' : Zt} {σ : Mem} {x y is v : Int} (hM : MI Z σ) (hN : nxColumn Z x y is v Z') : CM mX11_column [.inr 73, .inl x, .inl y, .inl is] σ (RQ σ v Z') := by
  refine rX11_column_0 ⟨fun hi => ?_, fun hi => ?_⟩
  · have hC : isC x y := hi
    have hc := cN_lt hC
    have hkr := hM.kr _ hc.1
    have hx : 0 ≤ x ∧ x < 6 ∧ 0 ≤ y ∧ y < 6 := hi
    rw [hc.2, Int.toNat_natCast]
    rcases hN with ⟨w, -, -⟩ | ⟨-, k2, rfl, rfl⟩ | ⟨-, k2, rfl, W, O, rfl⟩
    · exact absurd hC w
    · have h74 : 0 ≤ σ 74 (cN x y) := by unfold KR at hkr; omega
      exact ⟨by omega, by omega, by omega, by omega, fun h => by omega, fun _ => ⟨rfl, hM, Same.rf⟩⟩
    · have h74 : σ 74 (cN x y) < 0 := by unfold KR at hkr; omega
      refine ⟨by omega, by omega, by omega, by omega, fun _ => ⟨fun h0 => ⟨rfl, ?_, (Same.mu (by decide)).tr (Same.mu (by decide))⟩, fun h0 => ⟨rfl, ?_, (Same.mu (by decide)).tr (Same.mu (by decide))⟩⟩, fun h => by omega⟩
      · refine ⟨mi_kinds (c := cN x y) (k := 0) (a := -1) (e := 0) hM (fun d => by rw [if_pos h0]; rfl) (fun d => by rw [mu_nef (by decide), mu_at]) (fun d => by rw [mu_at, mu_nef (by decide)]) (Or.inl ⟨rfl, rfl, rfl⟩), hM.c, hM.n, hM.b, hM.m, hM.w, hM.h, hM.l, hM.v, hM.wa, hM.wb, hM.we, hM.wd⟩
      · refine ⟨mi_kinds (c := cN x y) (k := 1) (a := -2) (e := 0) hM (fun d => by rw [if_neg h0]; rfl) (fun d => by rw [mu_nef (by decide), mu_at]) (fun d => by rw [mu_at, mu_nef (by decide)]) (Or.inr (Or.inl ⟨rfl, rfl, rfl⟩)), hM.c, hM.n, hM.b, hM.m, hM.w, hM.h, hM.l, hM.v, hM.wa, hM.wb, hM.we, hM.wd⟩
  · rcases hN with ⟨-, rfl, rfl⟩ | ⟨w, -⟩ | ⟨w, -⟩
    · exact ⟨rfl, hM, Same.rf⟩
    · exact absurd w hi
    · exact absurd w hi
theorem c_X11_exit {Z Z' : Zt} {σ : Mem} {x y is v : Int} (hM : MI Z σ) (hN : nxExit Z x y is v Z') (his : is = 0 ∨ is = 1) : CM mX11_exit [.inr 73, .inl x, .inl y, .inl is] σ (RQ σ v Z') := by
  refine rX11_exit_0 ⟨fun hi => ?_, fun hi => ?_⟩
  · have hC : isC x y := hi
    have hc := cN_lt hC
    have hkr := hM.kr _ hc.1
    have hx : 0 ≤ x ∧ x < 6 ∧ 0 ≤ y ∧ y < 6 := hi
    rw [hc.2, Int.toNat_natCast]
    rcases hN with ⟨w, -, -⟩ | ⟨-, k2, k3, rfl, rfl⟩ | ⟨-, k2, rfl, W, O, rfl⟩
    · exact absurd hC w
    · have h74 : σ 74 (cN x y) ≠ -1 := by unfold KR at hkr; omega
      exact ⟨by omega, by omega, by omega, by omega, fun h => absurd h h74, fun _ => ⟨rfl, hM, Same.rf⟩⟩
    · have h74 : σ 74 (cN x y) = -1 := by unfold KR at hkr; omega
      have hnew : MI (zG Z (fup (zK Z) (cN x y) (if is = 0 then 0 else 3)) (zC Z) (dn (zD Z)) W O) (mu σ 75 (cN x y) is) := by
        refine ⟨mi_kinds (c := cN x y) (k := if is = 0 then 0 else 3) (a := -1) (e := is) hM (fun d => rfl) (fun d => ?_) (fun d => by rw [mu_at]) ?_, hM.c, hM.n, hM.b, hM.m, hM.w, hM.h, hM.l, hM.v, hM.wa, hM.wb, hM.we, hM.wd⟩
        · rw [mu_nef (by decide)]
          by_cases q : d = cN x y
          · rw [if_pos q, q]; exact h74
          · rw [if_neg q]
        · rcases his with q | q
          · rw [if_pos q]; exact Or.inl ⟨rfl, rfl, q⟩
          · rw [if_neg (by omega)]; exact Or.inr (Or.inr (Or.inr ⟨rfl, rfl, q⟩))
      refine ⟨by omega, by omega, by omega, by omega, fun _ => ⟨fun h0 => ⟨his, ?_, hnew, Same.mu (by decide)⟩, fun h0 => ⟨his, ?_, hnew, Same.mu (by decide)⟩⟩, fun h => absurd h74 h⟩
      · rw [if_neg]; unfold KR at hkr; omega
      · rw [if_pos]; unfold KR at hkr; omega
  · rcases hN with ⟨-, rfl, rfl⟩ | ⟨w, -⟩ | ⟨w, -⟩
    · exact ⟨rfl, hM, Same.rf⟩
    · exact absurd w hi
    · exact absurd w hi
theorem c_X11_slot {Z Z' : Zt} {σ : Mem} {x y v : Int} (hZ : GZ Z) (hM : MI Z σ) (hN : nxSlot Z x y v Z') : CM mX11_slot [.inr 73, .inl x, .inl y] σ (RQ σ v Z') := by
  have hn6 := hZ.n6
  refine rX11_slot_0 ⟨fun hi => ?_, fun hi => ?_⟩
  · have hC : isC x y := hi
    have hc := cN_lt hC
    have hkr := hM.kr _ hc.1
    have hx : 0 ≤ x ∧ x < 6 ∧ 0 ≤ y ∧ y < 6 := hi
    rw [hc.2, Int.toNat_natCast, hM.n, Int.toNat_natCast]
    rcases hN with ⟨w, -, -⟩ | ⟨-, k2, rfl, rfl⟩ | ⟨-, k2, k3, rfl, rfl⟩ | ⟨-, k2, k3, rfl, W, O, rfl⟩
    · exact absurd hC w
    · refine ⟨by omega, by omega, by omega, by omega, fun h => ⟨rfl, hM, Same.rf⟩, fun h => ⟨fun h2 => ?_, fun h2 => ⟨rfl, hM, Same.rf⟩⟩⟩
      exact absurd (by unfold KR at hkr; omega) k2
    · have h74 : σ 74 (cN x y) = -1 ∧ σ 75 (cN x y) = 0 := by unfold KR at hkr; omega
      exact ⟨by omega, by omega, by omega, by omega, fun h => absurd h74.1 h, fun h => ⟨fun h2 => ⟨fun h3 => by omega, fun h3 => ⟨rfl, hM, Same.rf⟩⟩, fun h2 => absurd h74.2 h2⟩⟩
    · have h74 : σ 74 (cN x y) = -1 ∧ σ 75 (cN x y) = 0 := by unfold KR at hkr; omega
      refine ⟨by omega, by omega, by omega, by omega, fun h => absurd h74.1 h, fun h => ⟨fun h2 => ⟨fun h3 => ⟨by omega, by omega, by omega, by omega, by omega, ?_, ((Same.mu (by decide)).tr (Same.mu (by decide))).tr (Same.mu (by decide))⟩, fun h3 => by omega⟩, fun h2 => absurd h74.2 h2⟩⟩
      refine ⟨mi_kinds (c := cN x y) (k := 2) (a := dn (zD Z)) (e := 0) hM (fun d => rfl) (fun d => by rw [mu_nef (by decide), mu_nef (by decide), mu_at]) (fun d => ?_) (Or.inr (Or.inr (Or.inl ⟨rfl, by omega, rfl⟩))), ?_, ?_, ?_, ?_, ?_, hM.h.cong ?_, hM.l, hM.v, hM.wa, hM.wb, hM.we, hM.wd⟩
      · rw [mu_nef (by decide), mu_nef (by decide), mu_nef (by decide)]
        by_cases q : d = cN x y
        · rw [if_pos q, q]; exact h74.2
        · rw [if_neg q]
      · rw [mu_nef (by decide), mu_setA, setA_eq, mu_nef (by decide), hM.c]; rfl
      · rw [mu_at, if_pos rfl]; rfl
      · rw [mu_atn (by decide), mu_nef (by decide), mu_nef (by decide)]; exact hM.b
      · rw [mu_atn (by decide), mu_nef (by decide), mu_nef (by decide)]; exact hM.m
      · rw [mu_atn (by decide), mu_nef (by decide), mu_nef (by decide)]; exact hM.w
      · rw [mu_nef (by decide), mu_nef (by decide), mu_nef (by decide)]
  · rcases hN with ⟨-, rfl, rfl⟩ | ⟨w, -⟩ | ⟨w, -⟩ | ⟨w, -⟩
    · exact ⟨rfl, hM, Same.rf⟩
    · exact absurd w hi
    · exact absurd w hi
    · exact absurd w hi
theorem RQ.stay {Z : Zt} {S : List Nat} {σ σ1 : Mem} {v w : Int} (hM : MI Z σ) (hS : MSm S σ σ1) (hn : ∀ a ∈ S, a ∉ [74, 75, 76, 77, 78, 79, 80, 81, 82, 83]) (hc : ∀ a ∈ S, a ∈ mds) (hv : w = v) : RQ σ v Z w σ1 := ⟨hv, hM.same hS hn, hS.1.wk (fun a ha => (List.mem_cons.mp ha).elim (fun e => by rw [e]; decide) (hc a))⟩
theorem c_X11_far {Z Z' : Zt} {σ : Mem} {a b v : Int} (hZ : GZ Z) (hM : MI Z σ) (hN : nxA Z (aFar Z a b) v Z') : CM mX11_far [.inr 73, .inl a, .inl b] σ (RQ σ v Z') := by
  have hn6 := hZ.n6
  obtain ⟨hA, rfl⟩ := hN
  refine rX11_far_0 ⟨hM.nR hZ, ?_⟩
  rw [hM.n]
  refine ⟨fun h => ?_, fun h => ⟨fun h2 => ?_, fun h2 => ?_⟩⟩
  · rcases hA with ⟨w, -, -⟩ | ⟨-, rfl⟩
    · exact absurd w h
    · exact ⟨rfl, hM, Same.rf⟩
  · refine CM.mono (fun _ σ1 hq => ?_) (c_X11_layFloor hZ hM)
    obtain ⟨hL, hS⟩ := hq
    rcases hA with ⟨-, -, rfl⟩ | ⟨w, -⟩
    · refine ⟨by omega, by omega, by omega, by omega, RQ.stay hM (MSm.same hS (by decide)) (by decide) (by decide) ?_⟩
      rw [show (6 * a + b).toNat = 6 * a.toNat + b.toNat by omega]
      exact (hL a.toNat (by omega)).1 b.toNat (by omega)
    · exact absurd ⟨h, h2⟩ w
  · rcases hA with ⟨-, w, -⟩ | ⟨-, rfl⟩
    · exact absurd w h2
    · exact ⟨rfl, hM, Same.rf⟩
theorem c_X11_out {Z Z' : Zt} {σ : Mem} {a v : Int} (hZ : GZ Z) (hM : MI Z σ) (hN : nxA Z (aOut Z a) v Z') : CM mX11_out [.inr 73, .inl a] σ (RQ σ v Z') := by
  have hn6 := hZ.n6
  obtain ⟨hA, rfl⟩ := hN
  refine rX11_out_0 ⟨hM.nR hZ, ?_⟩
  rw [hM.n]
  refine ⟨fun h => ?_, fun h => ?_⟩
  · refine CM.mono (fun _ σ1 hq => ?_) (c_X11_layFloor hZ hM)
    obtain ⟨hL, hS⟩ := hq
    rcases hA with ⟨-, rfl⟩ | ⟨w, -⟩
    · exact ⟨by omega, by omega, RQ.stay hM (MSm.same hS (by decide)) (by decide) (by decide) (hL a.toNat (by omega)).2⟩
    · exact absurd h w
  · rcases hA with ⟨w, -⟩ | ⟨-, rfl⟩
    · exact absurd w h
    · exact ⟨rfl, hM, Same.rf⟩
theorem c_X11_bound {Z Z' : Zt} {σ : Mem} {x v : Int} (hM : MI Z σ) (hN : nxBound Z x v Z') : CM mX11_bound [.inr 73, .inl x] σ (RQ σ v Z') := by
  refine rX11_bound_0 ⟨fun h => ?_, fun h => ?_⟩
  · rcases hN with ⟨-, -, rfl, rfl⟩ | ⟨w, -⟩
    · refine ⟨hM.b, ⟨fun d hd => hM.kr d hd, hM.c, ?_, ?_, ?_, ?_, hM.h.cong ?_, hM.l, hM.v, hM.wa, hM.wb, hM.we, hM.wd⟩, Same.mu (by decide)⟩
      · rw [mu_atn (by decide)]; exact hM.n
      · rw [mu_at, if_pos rfl]; rfl
      · rw [mu_atn (by decide)]; exact hM.m
      · rw [mu_atn (by decide)]; exact hM.w
      · rw [mu_nef (by decide)]
    · exact absurd h w
  · rcases hN with ⟨w1, w2, -⟩ | ⟨-, rfl, rfl⟩
    · exact absurd ⟨w1, w2⟩ h
    · exact ⟨rfl, hM, Same.rf⟩
theorem c_X11_shop {Z Z' : Zt} {σ : Mem} {v : Int} (hZ : GZ Z) (hM : MI Z σ) (hN : nxShop Z v Z') : CM mX11_shop [.inr 73] σ (RQ σ v Z') := by
  have hn6 := hZ.n6
  have hm5 := hZ.m5
  have hl := hZ.len
  have hmm := hM.m
  have hnn := hM.n
  refine rX11_shop_0 ⟨fun h => ⟨fun h2 => ?_, fun h2 => ?_⟩, fun h => ?_⟩
  · rcases hN with ⟨w, -⟩ | ⟨-, w, -⟩ | ⟨w1, w2, rfl, r, hr, rfl⟩
    · omega
    · omega
    · have hr1 := nfF_some hr
      have hr2 := nf_some hr
      have second : ∀ (d s : Nat) (u : Int), s + d = r → bitsOf u (zh Z) → GO none mX11_shop 56 [some (.inr 73), some (.inl u), some (.inl (s : Int))] [] σ (RQ σ (dm (zD Z)) (zK Z, zC Z, uS (zD Z), zh Z ++ [r])) := by
        intro d
        induction d with
        | zero =>
          intro s u hd hu
          have hs : s = r := by omega
          subst hs
          refine rX11_shop_56 ⟨fun h => ?_, fun h => absurd ((hu.2.2 s (by omega)).mp h) hr2.2.2⟩
          rw [hmm, Int.toNat_natCast]
          refine ⟨by omega, by omega, by omega, by omega, by omega, ⟨fun d hd => hM.kr d hd, hM.c, ?_, ?_, ?_, ?_, ?_, hM.l, ?_, hM.wa, hM.wb, hM.we, hM.wd⟩, ((Same.mu (by decide)).tr (Same.mu (by decide))).tr (Same.mu (by decide))⟩
          · rw [mu_atn (by decide), mu_nef (by decide), mu_nef (by decide)]; exact hM.n
          · rw [mu_atn (by decide), mu_nef (by decide), mu_nef (by decide)]; exact hM.b
          · rw [mu_at, if_pos rfl]; rfl
          · rw [mu_atn (by decide), mu_nef (by decide), mu_nef (by decide)]; exact hM.w
          · have := hM.h.snoc s
            rw [hl] at this
            exact this.cong (by rw [mu_nef (by decide), mu_nef (by decide)])
          · rw [mu_nef (by decide), mu_setA, setA_eq, mu_nef (by decide), hM.v]; rfl
        | succ d ih =>
          intro s u hd hu
          have hin : s ∈ zh Z := hr1.2.2.2 s (by omega) (by omega)
          refine rX11_shop_56 ⟨fun h => absurd ((hu.2.2 s (by omega)).mpr hin) h, fun h => ⟨by omega, ?_⟩⟩
          exact ih (s + 1) u (by omega) hu
      have first : ∀ (d i : Nat) (u : Int), i + d = dm (zD Z) → bitsOf u ((zh Z).take i) → GO none mX11_shop 29 [some (.inr 73), some (.inl u), some (.inl (i : Int))] [] σ (RQ σ (dm (zD Z)) (zK Z, zC Z, uS (zD Z), zh Z ++ [r])) := by
        intro d
        induction d with
        | zero =>
          intro i u hd hu
          refine rX11_shop_29 ⟨fun _ => second r 0 u (by omega) ?_, fun h => by omega⟩
          rw [List.take_of_length_le (by omega)] at hu
          exact hu
        | succ d ih =>
          intro i u hd hu
          refine rX11_shop_29 ⟨fun h => by omega, fun h => ⟨by omega, by omega, by omega, ?_⟩⟩
          rw [Int.toNat_natCast, hM.h.pg (by omega)]
          refine ih (i + 1) _ (by omega) (hu.add (t := pg (zh Z) i) (okP.s6 hZ hZ.ok _ (pg_mem (by omega))) (fun s => ?_))
          rw [List.take_add_one, List.mem_append, pg_eq (show i < (zh Z).length by omega), List.getElem?_eq_getElem (show i < (zh Z).length by omega)]
          simp [or_comm]
      exact first (dm (zD Z)) 0 0 (by omega) bitsOf.nil
  · rcases hN with ⟨w, -⟩ | ⟨-, -, rfl, rfl⟩ | ⟨w, w2, -⟩
    · omega
    · exact ⟨rfl, hM, Same.rf⟩
    · omega
  · rcases hN with ⟨-, rfl, rfl⟩ | ⟨w, -⟩ | ⟨w, -⟩
    · exact ⟨rfl, hM, Same.rf⟩
    · omega
    · omega
theorem c_X11_load {Z Z' : Zt} {σ : Mem} {y a b x v : Int} (hZ : GZ Z) (hM : MI Z σ) (hN : nxLoad Z y a b x v Z') : CM mX11_load [.inr 73, .inl y, .inl a, .inl b, .inl x] σ (RQ σ v Z') := by
  have hm5 := hZ.m5
  have hmm := hM.m
  have bad : ¬ (isY y ∧ are2 Z a b ∧ (0 ≤ x ∧ x ≤ 99)) → RQ σ v Z' (-2) σ := fun h => by
    rcases hN with ⟨w1, w2, w3, -⟩ | ⟨-, rfl, rfl⟩
    · exact absurd ⟨w1, w2, w3⟩ h
    · exact ⟨rfl, hM, Same.rf⟩
  refine rX11_load_0 ⟨fun h => bad (fun q => h q.1), fun h => ⟨hM.mR hZ, ?_⟩⟩
  rw [hmm]
  refine ⟨fun h1 => bad (fun q => h1 q.2.1.1), fun h1 => ⟨fun h2 => bad (fun q => h2 q.2.1.2.1), fun h2 => ⟨fun h3 => bad (fun q => q.2.1.2.2 h3), fun h3 => ⟨fun h4 => ?_, fun h4 => bad (fun q => h4 q.2.2)⟩⟩⟩⟩
  rcases hN with ⟨-, -, -, rfl, rfl⟩ | ⟨w, -⟩
  · refine ⟨by omega, by omega, by omega, by omega, by omega, by omega, by rw [hM.l]; rfl, ⟨fun d hd => hM.kr d hd, hM.c, hM.n, hM.b, hM.m, hM.w, hM.h, ?_, hM.v, hM.wa, hM.wb, hM.we, hM.wd⟩, Same.mu (by decide)⟩
    rw [mu_setA, setA_eq, hM.l]; rfl
  · exact absurd ⟨h, ⟨h1, h2, h3⟩, h4⟩ w
theorem c_X11_weight {Z Z' : Zt} {σ : Mem} {s x v : Int} (hZ : GZ Z) (hM : MI Z σ) (hN : nxWeight Z s x v Z') : CM mX11_weight [.inr 73, .inl s, .inl x] σ (RQ σ v Z') := by
  have hm5 := hZ.m5
  have hmm := hM.m
  have bad : ¬ (isSh Z s ∧ (1 ≤ x ∧ x ≤ 50)) → RQ σ v Z' (-2) σ := fun h => by
    rcases hN with ⟨w1, w2, -⟩ | ⟨-, rfl, rfl⟩
    · exact absurd ⟨w1, w2⟩ h
    · exact ⟨rfl, hM, Same.rf⟩
  refine rX11_weight_0 ⟨hM.mR hZ, ?_⟩
  rw [hmm]
  refine ⟨fun h1 => bad (fun q => h1 q.1), fun h1 => ⟨fun h2 => ?_, fun h2 => bad (fun q => h2 q.2)⟩⟩
  rcases hN with ⟨-, -, rfl, rfl⟩ | ⟨w, -⟩
  · refine ⟨by omega, by omega, by rw [hM.v], ⟨fun d hd => hM.kr d hd, hM.c, hM.n, hM.b, hM.m, hM.w, hM.h, hM.l, ?_, hM.wa, hM.wb, hM.we, hM.wd⟩, Same.mu (by decide)⟩
    rw [mu_setA, setA_eq, hM.v]; rfl
  · exact absurd ⟨h1, h2⟩ w
theorem c_X11_wish {Z Z' : Zt} {σ : Mem} {a b e x v : Int} (hZ : GZ Z) (hM : MI Z σ) (he : e = 0 ∨ e = 1) (hN : nxWish Z a b e x v Z') : CM mX11_wish [.inr 73, .inl a, .inl b, .inl e, .inl x] σ (RQ σ v Z') := by
  have hm5 := hZ.m5
  have hmm := hM.m
  have hww := hM.w
  have hw6 := hZ.wf.2.2.2.2.2.2.2.2.2.2.1
  have bad : ¬ (are2 Z a b ∧ (0 ≤ x ∧ x ≤ 20)) → RQ σ v Z' (-2) σ := fun h => by
    rcases hN with ⟨-, rfl, rfl⟩ | ⟨w1, w2, -⟩ | ⟨w1, w2, -⟩
    · exact ⟨rfl, hM, Same.rf⟩
    · exact absurd ⟨w1, w2⟩ h
    · exact absurd ⟨w1, w2⟩ h
  refine rX11_wish_0 ⟨hM.mR hZ, ?_⟩
  rw [hmm]
  refine ⟨fun h1 => bad (fun q => h1 q.1.1), fun h1 => ⟨fun h2 => bad (fun q => h2 q.1.2.1), fun h2 => ⟨fun h3 => bad (fun q => q.1.2.2 h3), fun h3 => ⟨fun h4 => ?_, fun h4 => bad (fun q => h4 q.2)⟩⟩⟩⟩
  rw [hww, Int.toNat_natCast]
  rcases hN with ⟨w, -⟩ | ⟨-, -, w6, rfl, rfl⟩ | ⟨-, -, w6, rfl, rfl⟩
  · exact absurd ⟨⟨h1, h2, h3⟩, h4⟩ w
  · exact ⟨fun h5 => by omega, fun h5 => ⟨rfl, hM, Same.rf⟩⟩
  · refine ⟨fun h5 => ⟨by omega, by omega, he, by omega, by omega, by omega, ⟨fun d hd => hM.kr d hd, hM.c, ?_, ?_, ?_, ?_, hM.h.cong ?_, hM.l, hM.v, ?_, ?_, ?_, ?_⟩, ((((Same.mu (by decide)).tr (Same.mu (by decide))).tr (Same.mu (by decide))).tr (Same.mu (by decide))).tr (Same.mu (by decide))⟩, fun h5 => by omega⟩
    · rw [mu_atn (by decide), mu_nef (by decide), mu_nef (by decide), mu_nef (by decide), mu_nef (by decide)]; exact hM.n
    · rw [mu_atn (by decide), mu_nef (by decide), mu_nef (by decide), mu_nef (by decide), mu_nef (by decide)]; exact hM.b
    · rw [mu_atn (by decide), mu_nef (by decide), mu_nef (by decide), mu_nef (by decide), mu_nef (by decide)]; exact hM.m
    · rw [mu_at, if_pos rfl]; rfl
    · rw [mu_nef (by decide), mu_nef (by decide), mu_nef (by decide), mu_nef (by decide), mu_nef (by decide)]
    · rw [mu_nef (by decide), mu_nef (by decide), mu_nef (by decide), mu_nef (by decide), mu_setA, setA_eq, hM.wa]; rfl
    · rw [mu_nef (by decide), mu_nef (by decide), mu_nef (by decide), mu_setA, setA_eq, mu_nef (by decide), hM.wb]; rfl
    · rw [mu_nef (by decide), mu_nef (by decide), mu_setA, setA_eq, mu_nef (by decide), mu_nef (by decide), hM.we]; rfl
    · rw [mu_nef (by decide), mu_setA, setA_eq, mu_nef (by decide), mu_nef (by decide), mu_nef (by decide), hM.wd]; rfl
theorem shF_nil {f : Nat → Int} {g : Nat} : shF f g g = f := by
  funext i
  unfold shF
  rw [if_neg (by omega)]
theorem shF_far {f : Nat → Int} {g k i : Nat} (h : k ≤ i) : shF f g k i = f i := by
  unfold shF
  rw [if_neg (by omega)]
theorem c_X11_unwish {Z Z' : Zt} {σ : Mem} {x v : Int} (hZ : GZ Z) (hM : MI Z σ) (hN : nxUnwish Z x v Z') : CM mX11_unwish [.inr 73, .inl x] σ (RQ σ v Z') := by
  have hww := hM.w
  have hw6 := hZ.wf.2.2.2.2.2.2.2.2.2.2.1
  have hwi := hZ.wf.2.2.2.2.2.2.2.2.2.2.2
  refine rX11_unwish_0 ?_
  rw [hww]
  refine ⟨by omega, fun h => ?_, fun h => ?_⟩
  · rcases hN with ⟨w, -⟩ | ⟨w1, w2, rfl, rfl⟩
    · exact absurd (by omega) w
    · obtain ⟨g, rfl⟩ : ∃ g : Nat, x = g := ⟨x.toNat, by omega⟩
      have key : ∀ (d k : Nat) (σ0 : Mem), k + d = dwn (zD Z) - 1 → g ≤ k → σ0 73 9 = ((dwn (zD Z) - 1 : Nat) : Int) → (∀ j, j ≠ 9 → σ0 73 j = σ 73 j) → Same [73, 80, 81, 82, 83] σ σ0 → σ0 80 = shF (dwa (zD Z)) g k → σ0 81 = shF (dwb (zD Z)) g k → σ0 82 = shF (dwe (zD Z)) g k → σ0 83 = shF (dwd (zD Z)) g k → GO none mX11_unwish 29 [some (.inr 73), some (.inl (g : Int)), some (.inl (k : Int))] [] σ0 (RQ σ 1 (zU Z (uW (zD Z) (dwn (zD Z) - 1) (shF (dwa (zD Z)) g (dwn (zD Z) - 1)) (shF (dwb (zD Z)) g (dwn (zD Z) - 1)) (shF (dwe (zD Z)) g (dwn (zD Z) - 1)) (shF (dwd (zD Z)) g (dwn (zD Z) - 1))))) := by
        intro d
        induction d with
        | zero =>
          intro k σ0 hd hg h9 hj hS q1 q2 q3 q4
          have hk : k = dwn (zD Z) - 1 := by omega
          subst hk
          refine rX11_unwish_29 ⟨fun _ => ⟨rfl, ⟨fun d hd => ?_, ?_, ?_, ?_, ?_, h9, hM.h.cong (hS 77 (by decide)), ?_, ?_, q1, q2, q3, q4⟩, hS.wk (by decide)⟩, fun h => by omega⟩
          · rw [hS 74 (by decide), hS 75 (by decide)]; exact hM.kr d hd
          · rw [hS 76 (by decide)]; exact hM.c
          · rw [hj 2 (by decide)]; exact hM.n
          · rw [hj 4 (by decide)]; exact hM.b
          · rw [hj 5 (by decide)]; exact hM.m
          · rw [hS 78 (by decide)]; exact hM.l
          · rw [hS 79 (by decide)]; exact hM.v
        | succ d ih =>
          intro k σ0 hd hg h9 hj hS q1 q2 q3 q4
          have hwk := hwi (k + 1) (by omega)
          refine rX11_unwish_29 ⟨fun h => by omega, fun h => ?_⟩
          rw [Int.toNat_natCast, show ((k : Int) + 1).toNat = k + 1 by omega, q1, q2, q3, q4]
          refine ⟨by omega, by omega, by omega, by omega, by omega, ?_, ?_⟩
          · rw [shF_far (by omega)]; exact hwk.2.2.1
          · refine ih (k + 1) _ (by omega) (by omega) ?_ (fun j hj2 => ?_) (hS.tr ((((Same.mu (by decide)).tr (Same.mu (by decide))).tr (Same.mu (by decide))).tr (Same.mu (by decide)))) ?_ ?_ ?_ ?_
            · rw [mu_nef (by decide), mu_nef (by decide), mu_nef (by decide), mu_nef (by decide)]; exact h9
            · rw [mu_nef (by decide), mu_nef (by decide), mu_nef (by decide), mu_nef (by decide)]; exact hj j hj2
            · rw [mu_nef (by decide), mu_nef (by decide), mu_nef (by decide), mu_setA, setA_eq, q1]; exact shF_step hg
            · rw [mu_nef (by decide), mu_nef (by decide), mu_setA, setA_eq, mu_nef (by decide), q2]; exact shF_step hg
            · rw [mu_nef (by decide), mu_setA, setA_eq, mu_nef (by decide), mu_nef (by decide), q3]; exact shF_step hg
            · rw [mu_setA, setA_eq, mu_nef (by decide), mu_nef (by decide), mu_nef (by decide), q4]; exact shF_step hg
      rw [Int.toNat_natCast]
      refine key (dwn (zD Z) - 1 - g) g _ (by omega) (Nat.le_refl _) ?_ (fun j hj => mu_atn hj) (Same.mu (by decide)) ?_ ?_ ?_ ?_
      · rw [mu_at, if_pos rfl]; omega
      · rw [mu_nef (by decide), hM.wa, shF_nil]
      · rw [mu_nef (by decide), hM.wb, shF_nil]
      · rw [mu_nef (by decide), hM.we, shF_nil]
      · rw [mu_nef (by decide), hM.wd, shF_nil]
  · rcases hN with ⟨-, rfl, rfl⟩ | ⟨w1, w2, -⟩
    · exact ⟨rfl, hM, Same.rf⟩
    · exact absurd (by omega) h
theorem cnt_succ (f : Nat → Int) (x : Int) (n : Nat) : cntF f x (n + 1) = cntF f x n + (if f n = x then 1 else 0) := rfl
theorem cnt_bd (f : Nat → Int) (x : Int) : ∀ n, 0 ≤ cntF f x n ∧ cntF f x n ≤ n
  | 0 => by
    have : cntF f x 0 = 0 := rfl
    omega
  | n + 1 => by
    have := cnt_bd f x n
    rw [cnt_succ]
    split <;> omega
theorem c_X11_count {Z Z' : Zt} {σ : Mem} {x v : Int} (hM : MI Z σ) (hN : nxA Z (aCount Z x) v Z') : CM mX11_count [.inr 73, .inl x] σ (RQ σ v Z') := by
  obtain ⟨hA, rfl⟩ := hN
  have done : ∀ w, w = v → RQ σ v Z' w σ := fun w e => ⟨e, hM, Same.rf⟩
  unfold aCount at hA
  have l3 : ∀ (d i : Nat), i + d = 36 → v = cntF (zK Z') 1 36 → GO none mX11_count 53 [some (.inr 73), some (.inl x), some (.inl (cntF (zK Z') 1 i)), some (.inl (i : Int))] [] σ (RQ σ v Z') := by
    intro d
    induction d with
    | zero =>
      intro i hd he
      exact rX11_count_53 ⟨fun _ => done _ (by rw [he, show i = 36 by omega]), fun h => by omega⟩
    | succ d ih =>
      intro i hd he
      have hk := hM.kr i (by omega)
      have hb := cnt_bd (zK Z') 1 i
      have := ih (i + 1) (by omega) he
      rw [cnt_succ] at this
      refine rX11_count_53 ⟨fun h => by omega, fun h => ?_⟩
      rw [Int.toNat_natCast]
      refine ⟨by omega, fun h1 => ⟨by omega, by omega, ?_⟩, fun h1 => ⟨by omega, by omega, ?_⟩⟩
      · rw [if_neg (by unfold KR at hk; omega)] at this; exact this
      · rw [if_pos (by unfold KR at hk; omega)] at this; exact this
  have l4 : ∀ (d i : Nat), i + d = 36 → v = cntF (zK Z') 3 36 → GO none mX11_count 88 [some (.inr 73), some (.inl x), some (.inl (cntF (zK Z') 3 i)), some (.inl (i : Int))] [] σ (RQ σ v Z') := by
    intro d
    induction d with
    | zero =>
      intro i hd he
      exact rX11_count_88 ⟨fun _ => done _ (by rw [he, show i = 36 by omega]), fun h => by omega⟩
    | succ d ih =>
      intro i hd he
      have hk := hM.kr i (by omega)
      have hb := cnt_bd (zK Z') 3 i
      have := ih (i + 1) (by omega) he
      rw [cnt_succ] at this
      refine rX11_count_88 ⟨fun h => by omega, fun h => ?_⟩
      rw [Int.toNat_natCast]
      refine ⟨by omega, fun h1 => ⟨by omega, by omega, ?_⟩, fun h1 => ⟨by omega, by omega, ?_⟩⟩
      · rw [if_neg (by unfold KR at hk; omega)] at this; exact this
      · rw [if_pos (by unfold KR at hk; omega)] at this; exact this
  refine rX11_count_0 ⟨fun h => done _ (by omega), fun h => done _ (by rw [hM.n]; omega), fun h => done _ (by rw [hM.m]; omega), fun h => done _ (by rw [hM.w]; omega), fun h => l3 36 0 rfl (by omega), fun h => l4 36 0 rfl (by omega)⟩
