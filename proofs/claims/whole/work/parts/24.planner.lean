/-! ===== the planner's methods ===== -/
def seats52 : isSeats 52 := ⟨by decide, rfl, rfl, rfl, by decide, by decide, rfl, rfl, rfl⟩
def seats55 : isSeats 55 := ⟨by decide, rfl, rfl, rfl, by decide, by decide, rfl, rfl, rfl⟩
def seats58 : isSeats 58 := ⟨by decide, rfl, rfl, rfl, by decide, by decide, rfl, rfl, rfl⟩
theorem drop_cur {α : Type} {E r : List α} {i : Nat} {p : α} (h : E.drop i = p :: r) : ∃ (hi : i < E.length), E[i] = p ∧ E.drop (i + 1) = r := by
  have hi : i < E.length := by
    rcases Nat.lt_or_ge i E.length with q | q
    · exact q
    · rw [List.drop_eq_nil_of_le q] at h; cases h
  rw [List.drop_eq_getElem_cons hi] at h
  cases h
  exact ⟨hi, rfl, rfl⟩
theorem pE_walk {D : Dt} (hw : WF D) : walkN (dn D) 720 (fillF (dn D) (dm D) []) = pE D := walk_enum _ (by have := hw.1; omega) _ (by have := hw.2.1; omega) hw.2.2.1
theorem walkN_len (n : Nat) : ∀ (f : Nat) (p : List Nat), (walkN n f p).length ≤ f
  | 0, p => Nat.le_refl _
  | f + 1, p => by
    unfold walkN
    rw [List.length_cons]
    cases nxt n p with
    | none => simp
    | some q => have := walkN_len n f q; show (walkN n f q).length + 1 ≤ _; omega
theorem pE_len {D : Dt} (hw : WF D) : (pE D).length ≤ 720 := by rw [← pE_walk hw]; exact walkN_len _ _ _
theorem first_ok {D : Dt} (hw : WF D) : (fillF (dn D) (dm D) []).length = dm D ∧ okP (dn D) (fillF (dn D) (dm D) []) := by
  have hlen := fillF_len (dn D) (dm D) [] (by simp; exact hw.2.2.1)
  rw [List.length_nil, Nat.zero_add] at hlen
  exact ⟨hlen, fillF_ok _ _ ⟨by simp, List.nodup_nil⟩⟩
theorem drop_walk {D : Dt} {f i : Nat} {p : List Nat} (h : (pE D).drop i = walkN (dn D) (f + 1) p) : ∃ (hi : i < (pE D).length), (pE D)[i] = p ∧ (pE D).drop (i + 1) = (match nxt (dn D) p with
    | some q => walkN (dn D) f q
    | none => []) := by
  unfold walkN at h
  exact drop_cur h
set_option maxRecDepth 100000 in
theorem rX6_reckon_0 {x1 x2 : Int}  {σ : Mem} {Q : Int → Mem → Prop} (h : CM mX8_begin [.inr 52, .inl (σ 14 6), .inl (σ 1 7)] σ (fun _ σ8 => GO none mX6_reckon 26 [some (.inr 51), some (.inl x1), some (.inl x2), some (.inl 1), some (.inl 0), none, none] [] σ8 Q)) : CM mX6_reckon [.inr 51, .inl x1, .inl x2] σ Q := by
  refine CM_of_GO (by decide +kernel) rfl (Nat.le_of_ble_eq_true rfl) ?_
  show GO none mX6_reckon 0 [some (.inr 51), some (.inl x1), some (.inl x2), none, none, none, none] [] σ Q
  refine g_aload_n dX6_reckon_0 rfl rfl ?_
  refine g_getR (r' := 52) flX6_12 (by decide) rfl (by decide) rfl dX6_reckon_1 ?_
  refine g_aload_n dX6_reckon_4 rfl rfl ?_
  refine g_getR (r' := 14) flX6_50 (by decide) rfl (by decide) rfl dX6_reckon_5 ?_
  refine g_invVI (as := []) (rest := [.inr 52]) okX9_shops mlX6_75 (by decide) rfl ⟨_, _, rfl⟩ rfl ⟨Nat.le_of_ble_eq_true rfl, Nat.le_of_ble_eq_true rfl⟩ (Nat.le_of_ble_eq_true rfl) rfl dX6_reckon_8 (c_X9_shops) (Or.inl rfl) (fun v1 σ2 e3 => ?_)
  obtain ⟨e3a, e3b⟩ := e3; subst v1; subst σ2
  refine g_aload_n dX6_reckon_11 rfl rfl ?_
  refine g_getR (r' := 1) flX6_46 (by decide) rfl (by decide) rfl dX6_reckon_12 ?_
  refine g_invVI (as := []) (rest := [.inl (σ 14 6), .inr 52]) okX2_slots mlX6_81 (by decide) rfl ⟨_, _, rfl⟩ rfl ⟨Nat.le_of_ble_eq_true rfl, Nat.le_of_ble_eq_true rfl⟩ (Nat.le_of_ble_eq_true rfl) rfl dX6_reckon_15 (c_X2_slots) (Or.inl rfl) (fun v4 σ5 e6 => ?_)
  obtain ⟨e6a, e6b⟩ := e6; subst v4; subst σ5
  refine g_invVV (as := [.inl (σ 14 6), .inl (σ 1 7)]) (rest := []) okX8_begin mlX6_86 (by decide) rfl ⟨_, _, rfl⟩ rfl ⟨Nat.le_of_ble_eq_true rfl, Nat.le_of_ble_eq_true rfl⟩ (Nat.le_of_ble_eq_true rfl) rfl dX6_reckon_18 h rfl (fun σ8 e9 => ?_)
  have h := e9
  refine g_iconst dX6_reckon_21 (by decide) ?_
  refine g_istore_n (ls' := [some (.inr 51), some (.inl x1), some (.inl x2), some (.inl 1), none, none, none]) dX6_reckon_22 rfl (by decide) rfl ?_
  refine g_iconst dX6_reckon_23 (by decide) ?_
  refine g_istore (ls' := [some (.inr 51), some (.inl x1), some (.inl x2), some (.inl 1), some (.inl 0), none, none]) dX6_reckon_24 (by decide) rfl ?_
  exact h
set_option maxRecDepth 100000 in
theorem rX6_reckon_26 {x1 x2 x3 x4 : Int}  {σ : Mem} {Q : Int → Mem → Prop} (h : (x3 = 0 → Q 0 σ) ∧ (x3 ≠ 0 → (720 ≤ x4 → Q 0 σ) ∧ (x4 < 720 → CM mX3_costOf [.inr 27, .inl x1, .inr 52] σ (fun v3 σ4 => (x2 = 0 → CM mX8_told [.inr 52] σ4 (fun v7 σ8 => ((0 ≤ v7) ∧ (((v7 < 7776) ∧ (((inR (x1 * 720)) ∧ (((inR ((x1 * 720) + x4)) ∧ ((v3 ≠ (-1) → ((inR (v3 + (σ8 64 (v7).toNat))) ∧ (((0 ≤ ((x1 * 720) + x4)) ∧ (((((x1 * 720) + x4) < 2880) ∧ (CM mX8_goOn [.inr 52, .inl (σ8 1 7)] (mu σ8 62 (((x1 * 720) + x4)).toNat (if 268435456 ≤ (v3 + (σ8 64 (v7).toNat)) then 268435456 else (v3 + (σ8 64 (v7).toNat)))) (fun v27 σ28 => ((inR (x4 + 1)) ∧ (GO none mX6_reckon 26 [some (.inr 51), some (.inl x1), some (.inl x2), some (.inl v27), some (.inl (x4 + 1)), none, none] [] σ28 Q)))))))))) ∧ (v3 = (-1) → ((0 ≤ ((x1 * 720) + x4)) ∧ (((((x1 * 720) + x4) < 2880) ∧ (CM mX8_goOn [.inr 52, .inl (σ8 1 7)] (mu σ8 62 (((x1 * 720) + x4)).toNat 268435456) (fun v39 σ40 => ((inR (x4 + 1)) ∧ (GO none mX6_reckon 26 [some (.inr 51), some (.inl x1), some (.inl x2), some (.inl v39), some (.inl (x4 + 1)), none, none] [] σ40 Q)))))))))))))))))) ∧ (x2 ≠ 0 → ((inR (x1 * 720)) ∧ (((inR ((x1 * 720) + x4)) ∧ ((v3 ≠ (-1) → ((inR (v3 + 0)) ∧ (((0 ≤ ((x1 * 720) + x4)) ∧ (((((x1 * 720) + x4) < 2880) ∧ (CM mX8_goOn [.inr 52, .inl (σ4 1 7)] (mu σ4 62 (((x1 * 720) + x4)).toNat (if 268435456 ≤ (v3 + 0) then 268435456 else (v3 + 0))) (fun v55 σ56 => ((inR (x4 + 1)) ∧ (GO none mX6_reckon 26 [some (.inr 51), some (.inl x1), some (.inl x2), some (.inl v55), some (.inl (x4 + 1)), none, none] [] σ56 Q)))))))))) ∧ (v3 = (-1) → ((0 ≤ ((x1 * 720) + x4)) ∧ (((((x1 * 720) + x4) < 2880) ∧ (CM mX8_goOn [.inr 52, .inl (σ4 1 7)] (mu σ4 62 (((x1 * 720) + x4)).toNat 268435456) (fun v67 σ68 => ((inR (x4 + 1)) ∧ (GO none mX6_reckon 26 [some (.inr 51), some (.inl x1), some (.inl x2), some (.inl v67), some (.inl (x4 + 1)), none, none] [] σ68 Q))))))))))))))))) : GO none mX6_reckon 26 [some (.inr 51), some (.inl x1), some (.inl x2), some (.inl x3), some (.inl x4), none, none] [] σ Q := by
  refine g_iload_n dX6_reckon_26 rfl rfl ?_
  refine g_if_eq (tgt := 133) dX6_reckon_27 (by decide) (fun c1 => ?_) (fun c1 => ?_)
  · have h := h.1 c1
    exact g_return rfl dX6_reckon_133 h
  · have h := h.2 c1
    refine g_iload dX6_reckon_30 rfl ?_
    refine g_sipush dX6_reckon_32 (by decide) (by decide) ?_
    refine g_icmp_ge (tgt := 133) dX6_reckon_35 (by decide) (fun c2 => ?_) (fun c2 => ?_)
    · have h := h.1 c2
      exact g_return rfl dX6_reckon_133 h
    · have h := h.2 c2
      refine g_aload_n dX6_reckon_38 rfl rfl ?_
      refine g_getR (r' := 27) flX6_54 (by decide) rfl (by decide) rfl dX6_reckon_39 ?_
      refine g_iload_n dX6_reckon_42 rfl rfl ?_
      refine g_aload_n dX6_reckon_43 rfl rfl ?_
      refine g_getR (r' := 52) flX6_12 (by decide) rfl (by decide) rfl dX6_reckon_44 ?_
      refine g_invVI (as := [.inl x1, .inr 52]) (rest := []) okX3_costOf mlX6_90 (by decide) rfl ⟨_, _, rfl⟩ rfl ⟨Nat.le_of_ble_eq_true rfl, Nat.le_of_ble_eq_true rfl⟩ (Nat.le_of_ble_eq_true rfl) rfl dX6_reckon_47 h (Or.inl rfl) (fun v3 σ4 e5 => ?_)
      have h := e5
      refine g_istore (ls' := [some (.inr 51), some (.inl x1), some (.inl x2), some (.inl x3), some (.inl x4), some (.inl v3), none]) dX6_reckon_50 (by decide) rfl ?_
      refine g_iload_n dX6_reckon_52 rfl rfl ?_
      refine g_if_eq (tgt := 60) dX6_reckon_53 (by decide) (fun c6 => ?_) (fun c6 => ?_)
      · have h := h.1 c6
        refine g_aload_n dX6_reckon_60 rfl rfl ?_
        refine g_getR (r' := 63) flX6_33 (by decide) rfl (by decide) rfl dX6_reckon_61 ?_
        refine g_aload_n dX6_reckon_64 rfl rfl ?_
        refine g_getR (r' := 52) flX6_12 (by decide) rfl (by decide) rfl dX6_reckon_65 ?_
        refine g_invVI (as := []) (rest := [.inr 63]) okX8_told mlX6_96 (by decide) rfl ⟨_, _, rfl⟩ rfl ⟨Nat.le_of_ble_eq_true rfl, Nat.le_of_ble_eq_true rfl⟩ (Nat.le_of_ble_eq_true rfl) rfl dX6_reckon_68 h (Or.inl rfl) (fun v7 σ8 e9 => ?_)
        have h := e9
        obtain ⟨p10, h⟩ := h
        obtain ⟨p11, h⟩ := h
        refine g_invVI (as := [.inl v7]) (rest := []) okX7_get mlX6_58 (by decide) rfl ⟨_, _, rfl⟩ rfl ⟨Nat.le_of_ble_eq_true rfl, Nat.le_of_ble_eq_true rfl⟩ (Nat.le_of_ble_eq_true rfl) rfl dX6_reckon_71 (c_X7_get ⟨by decide, by decide, rfl, rfl, rfl⟩ p10 p11) (Or.inl rfl) (fun v12 σ13 e14 => ?_)
        obtain ⟨e14a, e14b⟩ := e14; subst v12; subst σ13
        refine g_istore (ls' := [some (.inr 51), some (.inl x1), some (.inl x2), some (.inl x3), some (.inl x4), some (.inl v3), some (.inl (σ8 64 (v7).toNat))]) dX6_reckon_74 (by decide) rfl ?_
        refine g_aload_n dX6_reckon_76 rfl rfl ?_
        refine g_getR (r' := 61) flX6_29 (by decide) rfl (by decide) rfl dX6_reckon_77 ?_
        refine g_iload_n dX6_reckon_80 rfl rfl ?_
        refine g_sipush dX6_reckon_81 (by decide) (by decide) ?_
        obtain ⟨p15, h⟩ := h
        refine g_imul dX6_reckon_84 p15 ?_
        refine g_iload dX6_reckon_85 rfl ?_
        obtain ⟨p16, h⟩ := h
        refine g_iadd dX6_reckon_87 p16 ?_
        refine g_iload dX6_reckon_88 rfl ?_
        refine g_iconst dX6_reckon_90 (by decide) ?_
        refine g_icmp_ne (tgt := 99) dX6_reckon_91 (by decide) (fun c17 => ?_) (fun c17 => ?_)
        · have h := h.1 c17
          refine g_ldc (n := 268435456) dX6_reckon_99 kcX6_99 (by decide) (by decide) ?_
          refine g_iload dX6_reckon_101 rfl ?_
          refine g_iload dX6_reckon_103 rfl ?_
          obtain ⟨p18, h⟩ := h
          refine g_iadd dX6_reckon_105 p18 ?_
          refine g_min mlX6_100 min_s min_i min_c (by decide) (Nat.le_of_ble_eq_true rfl) dX6_reckon_106 ?_
          obtain ⟨p19, h⟩ := h
          obtain ⟨p20, h⟩ := h
          refine g_invVV (as := [.inl ((x1 * 720) + x4), .inl (if 268435456 ≤ (v3 + (σ8 64 (v7).toNat)) then 268435456 else (v3 + (σ8 64 (v7).toNat)))]) (rest := []) okX7_set mlX6_106 (by decide) rfl ⟨_, _, rfl⟩ rfl ⟨Nat.le_of_ble_eq_true rfl, Nat.le_of_ble_eq_true rfl⟩ (Nat.le_of_ble_eq_true rfl) rfl dX6_reckon_109 (c_X7_set ⟨by decide, by decide, rfl, rfl, rfl⟩ p19 p20) rfl (fun σ22 e23 => ?_)
          subst σ22
          refine g_aload_n dX6_reckon_112 rfl rfl ?_
          refine g_getR (r' := 52) flX6_12 (by decide) rfl (by decide) rfl dX6_reckon_113 ?_
          refine g_aload_n dX6_reckon_116 rfl rfl ?_
          refine g_getR (r' := 1) flX6_46 (by decide) rfl (by decide) rfl dX6_reckon_117 ?_
          refine g_invVI (as := []) (rest := [.inr 52]) okX2_slots mlX6_81 (by decide) rfl ⟨_, _, rfl⟩ rfl ⟨Nat.le_of_ble_eq_true rfl, Nat.le_of_ble_eq_true rfl⟩ (Nat.le_of_ble_eq_true rfl) rfl dX6_reckon_120 (c_X2_slots) (Or.inl rfl) (fun v24 σ25 e26 => ?_)
          obtain ⟨e26a, e26b⟩ := e26; subst v24; subst σ25
          refine g_top (w := (σ8 1 7)) rfl ?_
          refine g_invVI (as := [.inl (σ8 1 7)]) (rest := []) okX8_goOn mlX6_109 (by decide) rfl ⟨_, _, rfl⟩ rfl ⟨Nat.le_of_ble_eq_true rfl, Nat.le_of_ble_eq_true rfl⟩ (Nat.le_of_ble_eq_true rfl) rfl dX6_reckon_123 h (Or.inr rfl) (fun v27 σ28 e29 => ?_)
          have h := e29
          refine g_istore_n (ls' := [some (.inr 51), some (.inl x1), some (.inl x2), some (.inl v27), some (.inl x4), some (.inl v3), some (.inl (σ8 64 (v7).toNat))]) dX6_reckon_126 rfl (by decide) rfl ?_
          obtain ⟨p30, h⟩ := h
          refine g_iinc (ls' := [some (.inr 51), some (.inl x1), some (.inl x2), some (.inl v27), some (.inl (x4 + 1)), some (.inl v3), some (.inl (σ8 64 (v7).toNat))]) dX6_reckon_127 (by decide) rfl p30 rfl ?_
          refine g_goto (tgt := 26) dX6_reckon_130 (by decide) ?_
          refine g_kill (i := 5) (ls' := [some (.inr 51), some (.inl x1), some (.inl x2), some (.inl v27), some (.inl (x4 + 1)), none, some (.inl (σ8 64 (v7).toNat))]) rfl ?_
          refine g_kill (i := 6) (ls' := [some (.inr 51), some (.inl x1), some (.inl x2), some (.inl v27), some (.inl (x4 + 1)), none, none]) rfl ?_
          exact h
        · have h := h.2 c17
          refine g_ldc (n := 268435456) dX6_reckon_94 kcX6_99 (by decide) (by decide) ?_
          refine g_goto (tgt := 109) dX6_reckon_96 (by decide) ?_
          obtain ⟨p31, h⟩ := h
          obtain ⟨p32, h⟩ := h
          refine g_invVV (as := [.inl ((x1 * 720) + x4), .inl 268435456]) (rest := []) okX7_set mlX6_106 (by decide) rfl ⟨_, _, rfl⟩ rfl ⟨Nat.le_of_ble_eq_true rfl, Nat.le_of_ble_eq_true rfl⟩ (Nat.le_of_ble_eq_true rfl) rfl dX6_reckon_109 (c_X7_set ⟨by decide, by decide, rfl, rfl, rfl⟩ p31 p32) rfl (fun σ34 e35 => ?_)
          subst σ34
          refine g_aload_n dX6_reckon_112 rfl rfl ?_
          refine g_getR (r' := 52) flX6_12 (by decide) rfl (by decide) rfl dX6_reckon_113 ?_
          refine g_aload_n dX6_reckon_116 rfl rfl ?_
          refine g_getR (r' := 1) flX6_46 (by decide) rfl (by decide) rfl dX6_reckon_117 ?_
          refine g_invVI (as := []) (rest := [.inr 52]) okX2_slots mlX6_81 (by decide) rfl ⟨_, _, rfl⟩ rfl ⟨Nat.le_of_ble_eq_true rfl, Nat.le_of_ble_eq_true rfl⟩ (Nat.le_of_ble_eq_true rfl) rfl dX6_reckon_120 (c_X2_slots) (Or.inl rfl) (fun v36 σ37 e38 => ?_)
          obtain ⟨e38a, e38b⟩ := e38; subst v36; subst σ37
          refine g_top (w := (σ8 1 7)) rfl ?_
          refine g_invVI (as := [.inl (σ8 1 7)]) (rest := []) okX8_goOn mlX6_109 (by decide) rfl ⟨_, _, rfl⟩ rfl ⟨Nat.le_of_ble_eq_true rfl, Nat.le_of_ble_eq_true rfl⟩ (Nat.le_of_ble_eq_true rfl) rfl dX6_reckon_123 h (Or.inr rfl) (fun v39 σ40 e41 => ?_)
          have h := e41
          refine g_istore_n (ls' := [some (.inr 51), some (.inl x1), some (.inl x2), some (.inl v39), some (.inl x4), some (.inl v3), some (.inl (σ8 64 (v7).toNat))]) dX6_reckon_126 rfl (by decide) rfl ?_
          obtain ⟨p42, h⟩ := h
          refine g_iinc (ls' := [some (.inr 51), some (.inl x1), some (.inl x2), some (.inl v39), some (.inl (x4 + 1)), some (.inl v3), some (.inl (σ8 64 (v7).toNat))]) dX6_reckon_127 (by decide) rfl p42 rfl ?_
          refine g_goto (tgt := 26) dX6_reckon_130 (by decide) ?_
          refine g_kill (i := 5) (ls' := [some (.inr 51), some (.inl x1), some (.inl x2), some (.inl v39), some (.inl (x4 + 1)), none, some (.inl (σ8 64 (v7).toNat))]) rfl ?_
          refine g_kill (i := 6) (ls' := [some (.inr 51), some (.inl x1), some (.inl x2), some (.inl v39), some (.inl (x4 + 1)), none, none]) rfl ?_
          exact h
      · have h := h.2 c6
        refine g_iconst dX6_reckon_56 (by decide) ?_
        refine g_goto (tgt := 74) dX6_reckon_57 (by decide) ?_
        refine g_istore (ls' := [some (.inr 51), some (.inl x1), some (.inl x2), some (.inl x3), some (.inl x4), some (.inl v3), some (.inl 0)]) dX6_reckon_74 (by decide) rfl ?_
        refine g_aload_n dX6_reckon_76 rfl rfl ?_
        refine g_getR (r' := 61) flX6_29 (by decide) rfl (by decide) rfl dX6_reckon_77 ?_
        refine g_iload_n dX6_reckon_80 rfl rfl ?_
        refine g_sipush dX6_reckon_81 (by decide) (by decide) ?_
        obtain ⟨p43, h⟩ := h
        refine g_imul dX6_reckon_84 p43 ?_
        refine g_iload dX6_reckon_85 rfl ?_
        obtain ⟨p44, h⟩ := h
        refine g_iadd dX6_reckon_87 p44 ?_
        refine g_iload dX6_reckon_88 rfl ?_
        refine g_iconst dX6_reckon_90 (by decide) ?_
        refine g_icmp_ne (tgt := 99) dX6_reckon_91 (by decide) (fun c45 => ?_) (fun c45 => ?_)
        · have h := h.1 c45
          refine g_ldc (n := 268435456) dX6_reckon_99 kcX6_99 (by decide) (by decide) ?_
          refine g_iload dX6_reckon_101 rfl ?_
          refine g_iload dX6_reckon_103 rfl ?_
          obtain ⟨p46, h⟩ := h
          refine g_iadd dX6_reckon_105 p46 ?_
          refine g_min mlX6_100 min_s min_i min_c (by decide) (Nat.le_of_ble_eq_true rfl) dX6_reckon_106 ?_
          obtain ⟨p47, h⟩ := h
          obtain ⟨p48, h⟩ := h
          refine g_invVV (as := [.inl ((x1 * 720) + x4), .inl (if 268435456 ≤ (v3 + 0) then 268435456 else (v3 + 0))]) (rest := []) okX7_set mlX6_106 (by decide) rfl ⟨_, _, rfl⟩ rfl ⟨Nat.le_of_ble_eq_true rfl, Nat.le_of_ble_eq_true rfl⟩ (Nat.le_of_ble_eq_true rfl) rfl dX6_reckon_109 (c_X7_set ⟨by decide, by decide, rfl, rfl, rfl⟩ p47 p48) rfl (fun σ50 e51 => ?_)
          subst σ50
          refine g_aload_n dX6_reckon_112 rfl rfl ?_
          refine g_getR (r' := 52) flX6_12 (by decide) rfl (by decide) rfl dX6_reckon_113 ?_
          refine g_aload_n dX6_reckon_116 rfl rfl ?_
          refine g_getR (r' := 1) flX6_46 (by decide) rfl (by decide) rfl dX6_reckon_117 ?_
          refine g_invVI (as := []) (rest := [.inr 52]) okX2_slots mlX6_81 (by decide) rfl ⟨_, _, rfl⟩ rfl ⟨Nat.le_of_ble_eq_true rfl, Nat.le_of_ble_eq_true rfl⟩ (Nat.le_of_ble_eq_true rfl) rfl dX6_reckon_120 (c_X2_slots) (Or.inl rfl) (fun v52 σ53 e54 => ?_)
          obtain ⟨e54a, e54b⟩ := e54; subst v52; subst σ53
          refine g_top (w := (σ4 1 7)) rfl ?_
          refine g_invVI (as := [.inl (σ4 1 7)]) (rest := []) okX8_goOn mlX6_109 (by decide) rfl ⟨_, _, rfl⟩ rfl ⟨Nat.le_of_ble_eq_true rfl, Nat.le_of_ble_eq_true rfl⟩ (Nat.le_of_ble_eq_true rfl) rfl dX6_reckon_123 h (Or.inr rfl) (fun v55 σ56 e57 => ?_)
          have h := e57
          refine g_istore_n (ls' := [some (.inr 51), some (.inl x1), some (.inl x2), some (.inl v55), some (.inl x4), some (.inl v3), some (.inl 0)]) dX6_reckon_126 rfl (by decide) rfl ?_
          obtain ⟨p58, h⟩ := h
          refine g_iinc (ls' := [some (.inr 51), some (.inl x1), some (.inl x2), some (.inl v55), some (.inl (x4 + 1)), some (.inl v3), some (.inl 0)]) dX6_reckon_127 (by decide) rfl p58 rfl ?_
          refine g_goto (tgt := 26) dX6_reckon_130 (by decide) ?_
          refine g_kill (i := 5) (ls' := [some (.inr 51), some (.inl x1), some (.inl x2), some (.inl v55), some (.inl (x4 + 1)), none, some (.inl 0)]) rfl ?_
          refine g_kill (i := 6) (ls' := [some (.inr 51), some (.inl x1), some (.inl x2), some (.inl v55), some (.inl (x4 + 1)), none, none]) rfl ?_
          exact h
        · have h := h.2 c45
          refine g_ldc (n := 268435456) dX6_reckon_94 kcX6_99 (by decide) (by decide) ?_
          refine g_goto (tgt := 109) dX6_reckon_96 (by decide) ?_
          obtain ⟨p59, h⟩ := h
          obtain ⟨p60, h⟩ := h
          refine g_invVV (as := [.inl ((x1 * 720) + x4), .inl 268435456]) (rest := []) okX7_set mlX6_106 (by decide) rfl ⟨_, _, rfl⟩ rfl ⟨Nat.le_of_ble_eq_true rfl, Nat.le_of_ble_eq_true rfl⟩ (Nat.le_of_ble_eq_true rfl) rfl dX6_reckon_109 (c_X7_set ⟨by decide, by decide, rfl, rfl, rfl⟩ p59 p60) rfl (fun σ62 e63 => ?_)
          subst σ62
          refine g_aload_n dX6_reckon_112 rfl rfl ?_
          refine g_getR (r' := 52) flX6_12 (by decide) rfl (by decide) rfl dX6_reckon_113 ?_
          refine g_aload_n dX6_reckon_116 rfl rfl ?_
          refine g_getR (r' := 1) flX6_46 (by decide) rfl (by decide) rfl dX6_reckon_117 ?_
          refine g_invVI (as := []) (rest := [.inr 52]) okX2_slots mlX6_81 (by decide) rfl ⟨_, _, rfl⟩ rfl ⟨Nat.le_of_ble_eq_true rfl, Nat.le_of_ble_eq_true rfl⟩ (Nat.le_of_ble_eq_true rfl) rfl dX6_reckon_120 (c_X2_slots) (Or.inl rfl) (fun v64 σ65 e66 => ?_)
          obtain ⟨e66a, e66b⟩ := e66; subst v64; subst σ65
          refine g_top (w := (σ4 1 7)) rfl ?_
          refine g_invVI (as := [.inl (σ4 1 7)]) (rest := []) okX8_goOn mlX6_109 (by decide) rfl ⟨_, _, rfl⟩ rfl ⟨Nat.le_of_ble_eq_true rfl, Nat.le_of_ble_eq_true rfl⟩ (Nat.le_of_ble_eq_true rfl) rfl dX6_reckon_123 h (Or.inr rfl) (fun v67 σ68 e69 => ?_)
          have h := e69
          refine g_istore_n (ls' := [some (.inr 51), some (.inl x1), some (.inl x2), some (.inl v67), some (.inl x4), some (.inl v3), some (.inl 0)]) dX6_reckon_126 rfl (by decide) rfl ?_
          obtain ⟨p70, h⟩ := h
          refine g_iinc (ls' := [some (.inr 51), some (.inl x1), some (.inl x2), some (.inl v67), some (.inl (x4 + 1)), some (.inl v3), some (.inl 0)]) dX6_reckon_127 (by decide) rfl p70 rfl ?_
          refine g_goto (tgt := 26) dX6_reckon_130 (by decide) ?_
          refine g_kill (i := 5) (ls' := [some (.inr 51), some (.inl x1), some (.inl x2), some (.inl v67), some (.inl (x4 + 1)), none, some (.inl 0)]) rfl ?_
          refine g_kill (i := 6) (ls' := [some (.inr 51), some (.inl x1), some (.inl x2), some (.inl v67), some (.inl (x4 + 1)), none, none]) rfl ?_
          exact h
/-- the values of a year, by the places' numbers in their order -/
def OnR (D : Dt) (y : Nat) (g : List Nat → Int) (σ : Mem) : Prop := ∀ (i : Nat) (h : i < (pE D).length), σ 62 (720 * y + i) = g (pE D)[i]
noncomputable def rkV (D : Dt) (y : Nat) (lat : List Nat → Int) (p : List Nat) : Int := if cost D y p = -1 then 268435456 else if 268435456 ≤ cost D y p + lat p then 268435456 else cost D y p + lat p
theorem c_X6_reckon {D : Dt} {y : Nat} {x1 x2 : Int} {lat : List Nat → Int} {σ : Mem} (hw : WF D) (hD : CD D σ) (hy : y < 4) (e1 : x1 = y) (hlat : ∀ p ∈ pE D, 0 ≤ lat p ∧ lat p ≤ 268435456) (h0 : x2 = 0 → ∀ p ∈ pE D, σ 64 (tn p) = lat p) (h1 : x2 ≠ 0 → ∀ p ∈ pE D, lat p = 0) : CM mX6_reckon [.inr 51, .inl x1, .inl x2] σ (fun _ σ1 => OnR D y (rkV D y lat) σ1 ∧ (∀ t, t < 720 * y ∨ 720 * (y + 1) ≤ t → σ1 62 t = σ 62 t) ∧ Same [52, 54, 62] σ σ1) := by
  subst e1
  have hn := hw.1
  have hm := hw.2.1
  have hmn := hw.2.2.1
  have hEl := pE_len hw
  have key : ∀ (f i : Nat) (p : List Nat) (σ0 : Mem), i + f = 720 → p.length = dm D → okP (dn D) p → (pE D).drop i = walkN (dn D) f p → hld σ0 54 p → σ0 52 1 = p.length → CD D σ0 → (∀ (j : Nat) (h : j < (pE D).length), j < i → σ0 62 (720 * y + j) = rkV D y lat (pE D)[j]) → (∀ t, t < 720 * y ∨ 720 * (y + 1) ≤ t → σ0 62 t = σ 62 t) → Same [52, 54, 62] σ σ0 → GO none mX6_reckon 26 [some (.inr 51), some (.inl (y : Int)), some (.inl x2), some (.inl 1), some (.inl (i : Int)), none, none] [] σ0 (fun _ σ1 => OnR D y (rkV D y lat) σ1 ∧ (∀ t, t < 720 * y ∨ 720 * (y + 1) ≤ t → σ1 62 t = σ 62 t) ∧ Same [52, 54, 62] σ σ1) := by
    intro f
    induction f with
    | zero =>
      intro i p σ0 hi hl ho hdr hp hc hD0 hdone hout hS
      exact rX6_reckon_26 ⟨fun h => by omega, fun _ => ⟨fun _ => ⟨fun j hj => hdone j hj (by omega), hout, hS⟩, fun h => by omega⟩⟩
    | succ f ih =>
      intro i p σ0 hi hl ho hdr hp hc hD0 hdone hout hS
      obtain ⟨hiE, heq, hrest⟩ := drop_walk hdr
      have hpE : p ∈ pE D := by rw [← heq]; exact List.getElem_mem hiE
      have hdl := pE_dl hw hpE
      have hcb := cost_bd hw hy hl ho.1
      have hlb := hlat p hpE
      have htn := tn_lt hdl.2
      have h6 := pow6_le (show p.length ≤ 5 by omega)
      -- behind the value's writing
      have next : ∀ (σ8 : Mem) (val : Int), Same [52, 54, 62] σ σ8 → CD D σ8 → hld σ8 54 p → σ8 52 1 = p.length → (∀ t, t < 720 * y ∨ 720 * (y + 1) ≤ t → σ8 62 t = σ 62 t) → (∀ (j : Nat) (h : j < (pE D).length), j < i → σ8 62 (720 * y + j) = rkV D y lat (pE D)[j]) → val = rkV D y lat p → CM mX8_goOn [.inr 52, .inl (σ8 1 7)] (mu σ8 62 (720 * y + i) val) (fun v27 σ28 => (inR ((i : Int) + 1)) ∧ (GO none mX6_reckon 26 [some (.inr 51), some (.inl (y : Int)), some (.inl x2), some (.inl v27), some (.inl ((i : Int) + 1)), none, none] [] σ28 (fun _ σ1 => OnR D y (rkV D y lat) σ1 ∧ (∀ t, t < 720 * y ∨ 720 * (y + 1) ≤ t → σ1 62 t = σ 62 t) ∧ Same [52, 54, 62] σ σ1))) := by
        intro σ8 val gS gD gp gc gout gdone hval
        refine CM.mono (fun v σ28 h => ?_) (c_X8_goOn (k := 52) (p := p) (n := dn D) seats52 (gp.cong (mu_nef (by decide))) (by rw [mu_nef (by decide)]; exact gc) (by omega) (by omega) hn ho.1 gD.1)
        refine ⟨by omega, ?_⟩
        have gS2 : Same [52, 54, 62] σ (mu σ8 62 (720 * y + i) val) := gS.tr (Same.mu (by decide))
        have hd2 : ∀ (j : Nat) (h : j < (pE D).length), j < i + 1 → mu σ8 62 (720 * y + i) val 62 (720 * y + j) = rkV D y lat (pE D)[j] := fun j hj hji => by
          rw [mu_at]
          by_cases e : j = i
          · subst e
            rw [if_pos rfl, hval, heq]
          · rw [if_neg (by omega)]
            exact gdone j hj (by omega)
        have ho2 : ∀ t, t < 720 * y ∨ 720 * (y + 1) ≤ t → mu σ8 62 (720 * y + i) val 62 t = σ 62 t := fun t ht => by
          rw [mu_at, if_neg (by omega)]
          exact gout t ht
        cases e : nxt (dn D) p with
        | none =>
          rw [e] at h hrest
          obtain ⟨rfl, rfl⟩ := h
          refine rX6_reckon_26 ⟨fun _ => ⟨fun j hj => hd2 j hj ?_, ho2, gS2⟩, fun h => by omega⟩
          have := congrArg List.length hrest
          rw [List.length_drop] at this
          simp at this
          omega
        | some q =>
          rw [e] at h hrest
          obtain ⟨rfl, hq, hS13⟩ := h
          have hok := nxt_ok ho (by omega) e
          exact ih (i + 1) q σ28 (by omega) (by omega) hok.2 hrest hq (by rw [hS13 52 (by decide), mu_nef (by decide), gc, hok.1]) ((gD.same (S := [62]) (Same.mu (by decide)) (by decide)).same hS13 (by decide)) (fun j hj hji => by rw [hS13 62 (by decide)]; exact hd2 j hj hji) (fun t ht => by rw [hS13 62 (by decide)]; exact ho2 t ht) (gS2.tr (hS13.wk (by decide)))
      refine rX6_reckon_26 ⟨fun h => by omega, fun _ => ⟨fun h => by omega, fun _ => ?_⟩⟩
      refine CM.mono (fun v σ4 h => ?_) (c_X3_costOf (k := 52) hw hD0 seats52 hp hc hl ho.1 hy rfl)
      obtain ⟨rfl, rfl⟩ := h
      have ei : ((y : Int) * 720 + (i : Int)).toNat = 720 * y + i := by omega
      refine ⟨fun hx => ?_, fun hx => ?_⟩
      · refine CM.mono (fun v σ8 h => ?_) (c_X8_told (k := 52) seats52 hp hc (by omega) hdl.2)
        obtain ⟨rfl, rfl⟩ := h
        have e64 : σ8 64 (tn p) = lat p := by rw [hS 64 (by decide)]; exact h0 hx p hpE
        rw [tn_eq p, Int.toNat_natCast, e64, ei]
        refine ⟨by omega, by omega, by omega, by omega, fun hc1 => ⟨by omega, by omega, by omega, ?_⟩, fun hc1 => ⟨by omega, by omega, ?_⟩⟩
        · exact next σ8 _ hS hD0 hp hc hout hdone (by unfold rkV; rw [if_neg hc1])
        · exact next σ8 _ hS hD0 hp hc hout hdone (by unfold rkV; rw [if_pos hc1])
      · have l0 := h1 hx p hpE
        rw [ei]
        refine ⟨by omega, by omega, fun hc1 => ⟨by omega, by omega, by omega, ?_⟩, fun hc1 => ⟨by omega, by omega, ?_⟩⟩
        · exact next σ4 _ hS hD0 hp hc hout hdone (by unfold rkV; rw [if_neg hc1, l0])
        · exact next σ4 _ hS hD0 hp hc hout hdone (by unfold rkV; rw [if_pos hc1])
  have hf := first_ok hw
  refine rX6_reckon_0 (CM.mono (fun v σ1 h => ?_) (c_X8_begin (k := 52) seats52 hw.2.2.1 hm hn hD.2.1 hD.1))
  obtain ⟨g1, g2, g3⟩ := h
  exact key 720 0 _ σ1 rfl hf.1 hf.2 (by rw [List.drop_zero]; exact (pE_walk hw).symm) g2 (by rw [g1, hf.1]) (hD.same g3 (by decide)) (fun j hj h => by omega) (fun t _ => by rw [g3 62 (by decide)]) (g3.wk (by decide))
set_option maxRecDepth 100000 in
theorem rX6_stay_0 {x1 : Int}  {σ : Mem} {Q : Int → Mem → Prop} (h : CM mX6_toldEnd [.inr 51] σ (fun v1 σ2 => GO none mX6_stay 7 [some (.inr 51), some (.inl x1), some (.inl v1), some (.inl 0), none] [] σ2 Q)) : CM mX6_stay [.inr 51, .inl x1] σ Q := by
  refine CM_of_GO (by decide +kernel) rfl (Nat.le_of_ble_eq_true rfl) ?_
  show GO none mX6_stay 0 [some (.inr 51), some (.inl x1), none, none, none] [] σ Q
  refine g_aload_n dX6_stay_0 rfl rfl ?_
  refine g_invVI (as := []) (rest := []) okX6_toldEnd mlX6_113 (by decide) rfl ⟨_, _, rfl⟩ rfl ⟨Nat.le_of_ble_eq_true rfl, Nat.le_of_ble_eq_true rfl⟩ (Nat.le_of_ble_eq_true rfl) rfl dX6_stay_1 h (Or.inl rfl) (fun v1 σ2 e3 => ?_)
  have h := e3
  refine g_istore_n (ls' := [some (.inr 51), some (.inl x1), some (.inl v1), none, none]) dX6_stay_4 rfl (by decide) rfl ?_
  refine g_iconst dX6_stay_5 (by decide) ?_
  refine g_istore_n (ls' := [some (.inr 51), some (.inl x1), some (.inl v1), some (.inl 0), none]) dX6_stay_6 rfl (by decide) rfl ?_
  exact h
set_option maxRecDepth 100000 in
theorem rX6_stay_7 {x1 x2 x3 : Int}  {σ : Mem} {Q : Int → Mem → Prop} (h : (x2 ≤ x3 → CM mX8_begin [.inr 52, .inl (σ 14 6), .inl (σ 1 7)] σ (fun _ σ9 => GO none mX6_stay 54 [some (.inr 51), some (.inl x1), none, some (.inl 1), some (.inl 0)] [] σ9 Q)) ∧ (x3 < x2 → ((0 ≤ x3) ∧ (((x3 < 7776) ∧ (((inR (x3 + 1)) ∧ (GO none mX6_stay 7 [some (.inr 51), some (.inl x1), some (.inl x2), some (.inl (x3 + 1)), none] [] (mu σ 64 (x3).toNat 268435456) Q)))))))) : GO none mX6_stay 7 [some (.inr 51), some (.inl x1), some (.inl x2), some (.inl x3), none] [] σ Q := by
  refine g_iload_n dX6_stay_7 rfl rfl ?_
  refine g_iload_n dX6_stay_8 rfl rfl ?_
  refine g_icmp_ge (tgt := 28) dX6_stay_9 (by decide) (fun c1 => ?_) (fun c1 => ?_)
  · have h := h.1 c1
    refine g_aload_n dX6_stay_28 rfl rfl ?_
    refine g_getR (r' := 52) flX6_12 (by decide) rfl (by decide) rfl dX6_stay_29 ?_
    refine g_aload_n dX6_stay_32 rfl rfl ?_
    refine g_getR (r' := 14) flX6_50 (by decide) rfl (by decide) rfl dX6_stay_33 ?_
    refine g_invVI (as := []) (rest := [.inr 52]) okX9_shops mlX6_75 (by decide) rfl ⟨_, _, rfl⟩ rfl ⟨Nat.le_of_ble_eq_true rfl, Nat.le_of_ble_eq_true rfl⟩ (Nat.le_of_ble_eq_true rfl) rfl dX6_stay_36 (c_X9_shops) (Or.inl rfl) (fun v2 σ3 e4 => ?_)
    obtain ⟨e4a, e4b⟩ := e4; subst v2; subst σ3
    refine g_aload_n dX6_stay_39 rfl rfl ?_
    refine g_getR (r' := 1) flX6_46 (by decide) rfl (by decide) rfl dX6_stay_40 ?_
    refine g_invVI (as := []) (rest := [.inl (σ 14 6), .inr 52]) okX2_slots mlX6_81 (by decide) rfl ⟨_, _, rfl⟩ rfl ⟨Nat.le_of_ble_eq_true rfl, Nat.le_of_ble_eq_true rfl⟩ (Nat.le_of_ble_eq_true rfl) rfl dX6_stay_43 (c_X2_slots) (Or.inl rfl) (fun v5 σ6 e7 => ?_)
    obtain ⟨e7a, e7b⟩ := e7; subst v5; subst σ6
    refine g_invVV (as := [.inl (σ 14 6), .inl (σ 1 7)]) (rest := []) okX8_begin mlX6_86 (by decide) rfl ⟨_, _, rfl⟩ rfl ⟨Nat.le_of_ble_eq_true rfl, Nat.le_of_ble_eq_true rfl⟩ (Nat.le_of_ble_eq_true rfl) rfl dX6_stay_46 h rfl (fun σ9 e10 => ?_)
    have h := e10
    refine g_iconst dX6_stay_49 (by decide) ?_
    refine g_istore_n (ls' := [some (.inr 51), some (.inl x1), some (.inl x2), some (.inl 1), none]) dX6_stay_50 rfl (by decide) rfl ?_
    refine g_iconst dX6_stay_51 (by decide) ?_
    refine g_istore (ls' := [some (.inr 51), some (.inl x1), some (.inl x2), some (.inl 1), some (.inl 0)]) dX6_stay_52 (by decide) rfl ?_
    refine g_kill (i := 2) (ls' := [some (.inr 51), some (.inl x1), none, some (.inl 1), some (.inl 0)]) rfl ?_
    exact h
  · have h := h.2 c1
    refine g_aload_n dX6_stay_12 rfl rfl ?_
    refine g_getR (r' := 63) flX6_33 (by decide) rfl (by decide) rfl dX6_stay_13 ?_
    refine g_iload_n dX6_stay_16 rfl rfl ?_
    refine g_ldc (n := 268435456) dX6_stay_17 kcX6_99 (by decide) (by decide) ?_
    obtain ⟨p11, h⟩ := h
    obtain ⟨p12, h⟩ := h
    refine g_invVV (as := [.inl x3, .inl 268435456]) (rest := []) okX7_set mlX6_106 (by decide) rfl ⟨_, _, rfl⟩ rfl ⟨Nat.le_of_ble_eq_true rfl, Nat.le_of_ble_eq_true rfl⟩ (Nat.le_of_ble_eq_true rfl) rfl dX6_stay_19 (c_X7_set ⟨by decide, by decide, rfl, rfl, rfl⟩ p11 p12) rfl (fun σ14 e15 => ?_)
    subst σ14
    obtain ⟨p16, h⟩ := h
    refine g_iinc (ls' := [some (.inr 51), some (.inl x1), some (.inl x2), some (.inl (x3 + 1)), none]) dX6_stay_22 (by decide) rfl p16 rfl ?_
    refine g_goto (tgt := 7) dX6_stay_25 (by decide) ?_
    exact h
set_option maxRecDepth 100000 in
theorem rX6_stay_54 {x1 x3 x4 : Int}  {σ : Mem} {Q : Int → Mem → Prop} (h : (x3 = 0 → Q 0 σ) ∧ (x3 ≠ 0 → (720 ≤ x4 → Q 0 σ) ∧ (x4 < 720 → CM mX8_told [.inr 52] σ (fun v3 σ4 => ((inR (x1 * 720)) ∧ (((inR ((x1 * 720) + x4)) ∧ (((0 ≤ ((x1 * 720) + x4)) ∧ (((((x1 * 720) + x4) < 2880) ∧ (((0 ≤ v3) ∧ (((v3 < 7776) ∧ (CM mX8_goOn [.inr 52, .inl (σ4 1 7)] (mu σ4 64 (v3).toNat (σ4 62 (((x1 * 720) + x4)).toNat)) (fun v21 σ22 => ((inR (x4 + 1)) ∧ (GO none mX6_stay 54 [some (.inr 51), some (.inl x1), none, some (.inl v21), some (.inl (x4 + 1))] [] σ22 Q))))))))))))))))))) : GO none mX6_stay 54 [some (.inr 51), some (.inl x1), none, some (.inl x3), some (.inl x4)] [] σ Q := by
  refine g_iload_n dX6_stay_54 rfl rfl ?_
  refine g_if_eq (tgt := 116) dX6_stay_55 (by decide) (fun c1 => ?_) (fun c1 => ?_)
  · have h := h.1 c1
    exact g_return rfl dX6_stay_116 h
  · have h := h.2 c1
    refine g_iload dX6_stay_58 rfl ?_
    refine g_sipush dX6_stay_60 (by decide) (by decide) ?_
    refine g_icmp_ge (tgt := 116) dX6_stay_63 (by decide) (fun c2 => ?_) (fun c2 => ?_)
    · have h := h.1 c2
      exact g_return rfl dX6_stay_116 h
    · have h := h.2 c2
      refine g_aload_n dX6_stay_66 rfl rfl ?_
      refine g_getR (r' := 63) flX6_33 (by decide) rfl (by decide) rfl dX6_stay_67 ?_
      refine g_aload_n dX6_stay_70 rfl rfl ?_
      refine g_getR (r' := 52) flX6_12 (by decide) rfl (by decide) rfl dX6_stay_71 ?_
      refine g_invVI (as := []) (rest := [.inr 63]) okX8_told mlX6_96 (by decide) rfl ⟨_, _, rfl⟩ rfl ⟨Nat.le_of_ble_eq_true rfl, Nat.le_of_ble_eq_true rfl⟩ (Nat.le_of_ble_eq_true rfl) rfl dX6_stay_74 h (Or.inl rfl) (fun v3 σ4 e5 => ?_)
      have h := e5
      refine g_aload_n dX6_stay_77 rfl rfl ?_
      refine g_getR (r' := 61) flX6_29 (by decide) rfl (by decide) rfl dX6_stay_78 ?_
      refine g_iload_n dX6_stay_81 rfl rfl ?_
      refine g_sipush dX6_stay_82 (by decide) (by decide) ?_
      obtain ⟨p6, h⟩ := h
      refine g_imul dX6_stay_85 p6 ?_
      refine g_iload dX6_stay_86 rfl ?_
      obtain ⟨p7, h⟩ := h
      refine g_iadd dX6_stay_88 p7 ?_
      obtain ⟨p8, h⟩ := h
      obtain ⟨p9, h⟩ := h
      refine g_invVI (as := [.inl ((x1 * 720) + x4)]) (rest := [.inl v3, .inr 63]) okX7_get mlX6_58 (by decide) rfl ⟨_, _, rfl⟩ rfl ⟨Nat.le_of_ble_eq_true rfl, Nat.le_of_ble_eq_true rfl⟩ (Nat.le_of_ble_eq_true rfl) rfl dX6_stay_89 (c_X7_get ⟨by decide, by decide, rfl, rfl, rfl⟩ p8 p9) (Or.inl rfl) (fun v10 σ11 e12 => ?_)
      obtain ⟨e12a, e12b⟩ := e12; subst v10; subst σ11
      obtain ⟨p13, h⟩ := h
      obtain ⟨p14, h⟩ := h
      refine g_invVV (as := [.inl v3, .inl (σ4 62 (((x1 * 720) + x4)).toNat)]) (rest := []) okX7_set mlX6_106 (by decide) rfl ⟨_, _, rfl⟩ rfl ⟨Nat.le_of_ble_eq_true rfl, Nat.le_of_ble_eq_true rfl⟩ (Nat.le_of_ble_eq_true rfl) rfl dX6_stay_92 (c_X7_set ⟨by decide, by decide, rfl, rfl, rfl⟩ p13 p14) rfl (fun σ16 e17 => ?_)
      subst σ16
      refine g_aload_n dX6_stay_95 rfl rfl ?_
      refine g_getR (r' := 52) flX6_12 (by decide) rfl (by decide) rfl dX6_stay_96 ?_
      refine g_aload_n dX6_stay_99 rfl rfl ?_
      refine g_getR (r' := 1) flX6_46 (by decide) rfl (by decide) rfl dX6_stay_100 ?_
      refine g_invVI (as := []) (rest := [.inr 52]) okX2_slots mlX6_81 (by decide) rfl ⟨_, _, rfl⟩ rfl ⟨Nat.le_of_ble_eq_true rfl, Nat.le_of_ble_eq_true rfl⟩ (Nat.le_of_ble_eq_true rfl) rfl dX6_stay_103 (c_X2_slots) (Or.inl rfl) (fun v18 σ19 e20 => ?_)
      obtain ⟨e20a, e20b⟩ := e20; subst v18; subst σ19
      refine g_top (w := (σ4 1 7)) rfl ?_
      refine g_invVI (as := [.inl (σ4 1 7)]) (rest := []) okX8_goOn mlX6_109 (by decide) rfl ⟨_, _, rfl⟩ rfl ⟨Nat.le_of_ble_eq_true rfl, Nat.le_of_ble_eq_true rfl⟩ (Nat.le_of_ble_eq_true rfl) rfl dX6_stay_106 h (Or.inr rfl) (fun v21 σ22 e23 => ?_)
      have h := e23
      refine g_istore_n (ls' := [some (.inr 51), some (.inl x1), none, some (.inl v21), some (.inl x4)]) dX6_stay_109 rfl (by decide) rfl ?_
      obtain ⟨p24, h⟩ := h
      refine g_iinc (ls' := [some (.inr 51), some (.inl x1), none, some (.inl v21), some (.inl (x4 + 1))]) dX6_stay_110 (by decide) rfl p24 rfl ?_
      refine g_goto (tgt := 54) dX6_stay_113 (by decide) ?_
      exact h
theorem c_X6_stay {D : Dt} {y : Nat} {x1 : Int} {g : List Nat → Int} {σ : Mem} (hw : WF D) (hD : CD D σ) (hy : y < 4) (e1 : x1 = y) (hg : OnR D y g σ) (hgb : ∀ p ∈ pE D, 0 ≤ g p ∧ g p ≤ 268435456) (hf : ∀ t, t < 7776 → 0 ≤ σ 64 t ∧ σ 64 t ≤ 268435456) : CM mX6_stay [.inr 51, .inl x1] σ (fun _ σ1 => (∀ q, dl (dm D) q → σ1 64 (tn q) = if q ∈ pE D then g q else 268435456) ∧ (∀ t, t < 7776 → 0 ≤ σ1 64 t ∧ σ1 64 t ≤ 268435456) ∧ Same [52, 54, 64] σ σ1) := by
  subst e1
  have hn := hw.1
  have hm := hw.2.1
  have hmn := hw.2.2.1
  have hEl := pE_len hw
  have h6 := pow6_le hm
  have second : ∀ (f i : Nat) (p : List Nat) (σ0 : Mem), i + f = 720 → p.length = dm D → okP (dn D) p → (pE D).drop i = walkN (dn D) f p → hld σ0 54 p → σ0 52 1 = p.length → CD D σ0 → (∀ q, dl (dm D) q → σ0 64 (tn q) = if q ∈ (pE D).take i then g q else 268435456) → (∀ t, t < 7776 → 0 ≤ σ0 64 t ∧ σ0 64 t ≤ 268435456) → Same [52, 54, 64] σ σ0 → GO none mX6_stay 54 [some (.inr 51), some (.inl (y : Int)), none, some (.inl 1), some (.inl (i : Int))] [] σ0 (fun _ σ1 => (∀ q, dl (dm D) q → σ1 64 (tn q) = if q ∈ pE D then g q else 268435456) ∧ (∀ t, t < 7776 → 0 ≤ σ1 64 t ∧ σ1 64 t ≤ 268435456) ∧ Same [52, 54, 64] σ σ1) := by
    intro f
    induction f with
    | zero =>
      intro i p σ0 hi hl ho hdr hp hc hD0 hdone hb hS
      refine rX6_stay_54 ⟨fun h => by omega, fun _ => ⟨fun _ => ⟨?_, hb, hS⟩, fun h => by omega⟩⟩
      rw [List.take_of_length_le (by omega)] at hdone
      exact hdone
    | succ f ih =>
      intro i p σ0 hi hl ho hdr hp hc hD0 hdone hb hS
      obtain ⟨hiE, heq, hrest⟩ := drop_walk hdr
      have hpE : p ∈ pE D := by rw [← heq]; exact List.getElem_mem hiE
      have hdl := pE_dl hw hpE
      have htn := tn_lt hdl.2
      rw [hl] at htn
      have hgp := hgb p hpE
      refine rX6_stay_54 ⟨fun h => by omega, fun _ => ⟨fun h => by omega, fun _ => ?_⟩⟩
      refine CM.mono (fun v σ4 h => ?_) (c_X8_told (k := 52) seats52 hp hc (by omega) hdl.2)
      obtain ⟨rfl, rfl⟩ := h
      have e62 : σ4 62 (720 * y + i) = g p := by rw [hS 62 (by decide), hg i hiE, heq]
      rw [show ((y : Int) * 720 + (i : Int)).toNat = 720 * y + i by omega, tn_eq p, Int.toNat_natCast, e62]
      refine ⟨by omega, by omega, by omega, by omega, by omega, by omega, ?_⟩
      refine CM.mono (fun v σ28 h => ?_) (c_X8_goOn (k := 52) (p := p) (n := dn D) seats52 (hp.cong (mu_nef (by decide))) (by rw [mu_nef (by decide)]; exact hc) (by omega) (by omega) hn ho.1 hD0.1)
      refine ⟨by omega, ?_⟩
      have gS2 : Same [52, 54, 64] σ (mu σ4 64 (tn p) (g p)) := hS.tr (Same.mu (by decide))
      have hb2 : ∀ t, t < 7776 → 0 ≤ mu σ4 64 (tn p) (g p) 64 t ∧ mu σ4 64 (tn p) (g p) 64 t ≤ 268435456 := fun t ht => by
        rw [mu_at]
        split
        · exact hgp
        · exact hb t ht
      have hd2 : ∀ q, dl (dm D) q → mu σ4 64 (tn p) (g p) 64 (tn q) = if q ∈ (pE D).take (i + 1) then g q else 268435456 := fun q hq => by
        rw [mu_at, ← List.take_append_getElem hiE, heq]
        by_cases e : q = p
        · subst e
          rw [if_pos rfl, if_pos (List.mem_append_right _ (List.mem_singleton.mpr rfl))]
        · rw [if_neg (fun z => e (tn_inj hq.2 hdl.2 (by rw [hq.1, hl]) z)), hdone q hq]
          by_cases e2 : q ∈ (pE D).take i
          · rw [if_pos e2, if_pos (List.mem_append_left _ e2)]
          · rw [if_neg e2, if_neg (fun z => (List.mem_append.mp z).elim e2 (fun z => e (List.mem_singleton.mp z)))]
      cases e : nxt (dn D) p with
      | none =>
        rw [e] at h hrest
        obtain ⟨rfl, rfl⟩ := h
        refine rX6_stay_54 ⟨fun _ => ⟨?_, hb2, gS2⟩, fun h => by omega⟩
        have := congrArg List.length hrest
        rw [List.length_drop] at this
        simp at this
        rw [List.take_of_length_le (by omega)] at hd2
        exact hd2
      | some q =>
        rw [e] at h hrest
        obtain ⟨rfl, hq, hS13⟩ := h
        have hok := nxt_ok ho (by omega) e
        exact ih (i + 1) q σ28 (by omega) (by omega) hok.2 hrest hq (by rw [hS13 52 (by decide), mu_nef (by decide), hc, hok.1]) ((hD0.same (S := [64]) (Same.mu (by decide)) (by decide)).same hS13 (by decide)) (fun q hq => by rw [hS13 64 (by decide)]; exact hd2 q hq) (fun t ht => by rw [hS13 64 (by decide)]; exact hb2 t ht) (gS2.tr (hS13.wk (by decide)))
  have hfi := first_ok hw
  have first : ∀ (d t : Nat) (σ0 : Mem), t + d = 6 ^ dm D → (∀ u, u < t → σ0 64 u = 268435456) → (∀ t, t < 7776 → 0 ≤ σ0 64 t ∧ σ0 64 t ≤ 268435456) → Same [52, 54, 64] σ σ0 → GO none mX6_stay 7 [some (.inr 51), some (.inl (y : Int)), some (.inl ((6 ^ dm D : Nat) : Int)), some (.inl (t : Int)), none] [] σ0 (fun _ σ1 => (∀ q, dl (dm D) q → σ1 64 (tn q) = if q ∈ pE D then g q else 268435456) ∧ (∀ t, t < 7776 → 0 ≤ σ1 64 t ∧ σ1 64 t ≤ 268435456) ∧ Same [52, 54, 64] σ σ1) := by
    intro d
    induction d with
    | zero =>
      intro t σ0 hd hdone hb hS
      have hD0 := hD.same hS (by decide)
      refine rX6_stay_7 ⟨fun _ => ?_, fun h => by omega⟩
      refine CM.mono (fun v σ1 h => ?_) (c_X8_begin (k := 52) seats52 hw.2.2.1 hm hn hD0.2.1 hD0.1)
      obtain ⟨g1, g2, g3⟩ := h
      refine second 720 0 _ σ1 rfl hfi.1 hfi.2 (by rw [List.drop_zero]; exact (pE_walk hw).symm) g2 (by rw [g1, hfi.1]) (hD0.same g3 (by decide)) (fun q hq => ?_) (fun t ht => by rw [g3 64 (by decide)]; exact hb t ht) (hS.tr (g3.wk (by decide)))
      rw [g3 64 (by decide), if_neg (by simp)]
      refine hdone _ ?_
      have := tn_lt hq.2
      rw [hq.1] at this
      omega
    | succ d ih =>
      intro t σ0 hd hdone hb hS
      have ht : t < 6 ^ dm D := by omega
      refine rX6_stay_7 ⟨fun h => by generalize 6 ^ dm D = P at *; omega, fun _ => ?_⟩
      rw [Int.toNat_natCast]
      refine ⟨by omega, by omega, by omega, ih (t + 1) _ (by omega) (fun u hu => ?_) (fun u hu => ?_) (hS.tr (Same.mu (by decide)))⟩
      · rw [mu_at]
        split
        · rfl
        · exact hdone u (by omega)
      · rw [mu_at]
        split
        · decide
        · exact hb u hu
  refine rX6_stay_0 (CM.mono (fun v σ2 h => ?_) (c_X6_toldEnd hD.2.1 hm))
  obtain ⟨rfl, rfl⟩ := h
  exact first (6 ^ dm D) 0 σ2 (by omega) (fun u hu => by omega) hf Same.rf
