/-! ===== the best places of a year ===== -/
/-- one more places looked at: the least cost so far (-1: none), how many have it, the first of them -/
def bst (c : List Nat → Int) (s : Int × Int × List Nat) (p : List Nat) : Int × Int × List Nat :=
  if c p = -1 then s else if s.1 = -1 ∨ c p < s.1 then (c p, 1, p) else if c p = s.1 then (s.1, s.2.1 + 1, s.2.2) else s
noncomputable def bestS (D : Dt) (y : Nat) : Int × Int × List Nat := (enumN (dm D) (dn D)).foldl (bst (cost D y)) (-1, 0, [])
/-- the chooser's own numbers -/
def chH (m : Nat) (s : Int × Int × List Nat) (σ : Mem) : Prop := σ 33 5 = s.1 ∧ σ 33 6 = s.2.1 ∧ (s.1 ≠ -1 → s.2.2.length = m ∧ σ 37 1 = m ∧ hld σ 39 s.2.2)
def seats37 : isSeats 37 := ⟨by decide, rfl, rfl, rfl, by decide, by decide, rfl, rfl, rfl⟩
def seats34 : isSeats 34 := ⟨by decide, rfl, rfl, rfl, by decide, by decide, rfl, rfl, rfl⟩
set_option maxRecDepth 100000 in
theorem rX0_compare_0 {x1 : Int}  {σ : Mem} {Q : Int → Mem → Prop} (h : (x1 ≠ (-1) → ((σ 33 5) = (-1) → CM mX8_copy [.inr 37, .inr 34] (mu (mu σ 33 5 x1) 33 6 0) (fun _ σ4 => (x1 ≠ (σ4 33 5) → Q 0 σ4) ∧ (x1 = (σ4 33 5) → ((inR ((σ4 33 6) + 1)) ∧ (Q 0 (mu σ4 33 6 ((σ4 33 6) + 1))))))) ∧ ((σ 33 5) ≠ (-1) → ((σ 33 5) ≤ x1 → (x1 ≠ (σ 33 5) → Q 0 σ) ∧ (x1 = (σ 33 5) → ((inR ((σ 33 6) + 1)) ∧ (Q 0 (mu σ 33 6 ((σ 33 6) + 1)))))) ∧ (x1 < (σ 33 5) → CM mX8_copy [.inr 37, .inr 34] (mu (mu σ 33 5 x1) 33 6 0) (fun _ σ12 => (x1 ≠ (σ12 33 5) → Q 0 σ12) ∧ (x1 = (σ12 33 5) → ((inR ((σ12 33 6) + 1)) ∧ (Q 0 (mu σ12 33 6 ((σ12 33 6) + 1))))))))) ∧ (x1 = (-1) → Q 0 σ)) : CM mX0_compare [.inr 33, .inl x1] σ Q := by
  refine CM_of_GO (by decide +kernel) rfl (Nat.le_of_ble_eq_true rfl) ?_
  show GO none mX0_compare 0 [some (.inr 33), some (.inl x1)] [] σ Q
  refine g_iload_n dX0_compare_0 rfl rfl ?_
  refine g_iconst dX0_compare_1 (by decide) ?_
  refine g_icmp_ne (tgt := 6) dX0_compare_2 (by decide) (fun c1 => ?_) (fun c1 => ?_)
  · have h := h.1 c1
    refine g_aload_n dX0_compare_6 rfl rfl ?_
    refine g_getI flX0_21 (by decide) rfl (by decide) rfl dX0_compare_7 ?_
    refine g_iconst dX0_compare_10 (by decide) ?_
    refine g_icmp_eq (tgt := 22) dX0_compare_11 (by decide) (fun c2 => ?_) (fun c2 => ?_)
    · have h := h.1 c2
      refine g_aload_n dX0_compare_22 rfl rfl ?_
      refine g_iload_n dX0_compare_23 rfl rfl ?_
      refine g_putI fpX0_21 (by decide) rfl (by decide) rfl (Or.inl rfl) dX0_compare_24 ?_
      refine g_aload_n dX0_compare_27 rfl rfl ?_
      refine g_iconst dX0_compare_28 (by decide) ?_
      refine g_putI fpX0_25 (by decide) rfl (by decide) rfl (Or.inl rfl) dX0_compare_29 ?_
      refine g_aload_n dX0_compare_32 rfl rfl ?_
      refine g_getR (r' := 37) flX0_18 (by decide) rfl (by decide) rfl dX0_compare_33 ?_
      refine g_aload_n dX0_compare_36 rfl rfl ?_
      refine g_getR (r' := 34) flX0_12 (by decide) rfl (by decide) rfl dX0_compare_37 ?_
      refine g_invVV (as := [.inr 34]) (rest := []) okX8_copy mlX0_69 (by decide) rfl ⟨_, _, rfl⟩ rfl ⟨Nat.le_of_ble_eq_true rfl, Nat.le_of_ble_eq_true rfl⟩ (Nat.le_of_ble_eq_true rfl) rfl dX0_compare_40 h rfl (fun σ4 e5 => ?_)
      have h := e5
      refine g_iload_n dX0_compare_43 rfl rfl ?_
      refine g_aload_n dX0_compare_44 rfl rfl ?_
      refine g_getI flX0_21 (by decide) rfl (by decide) rfl dX0_compare_45 ?_
      refine g_icmp_ne (tgt := 61) dX0_compare_48 (by decide) (fun c6 => ?_) (fun c6 => ?_)
      · have h := h.1 c6
        exact g_return rfl dX0_compare_61 h
      · have h := h.2 c6
        refine g_aload_n dX0_compare_51 rfl rfl ?_
        refine g_dup dX0_compare_52 ?_
        refine g_getI flX0_25 (by decide) rfl (by decide) rfl dX0_compare_53 ?_
        refine g_iconst dX0_compare_56 (by decide) ?_
        obtain ⟨p7, h⟩ := h
        refine g_iadd dX0_compare_57 p7 ?_
        refine g_putI fpX0_25 (by decide) rfl (by decide) rfl (Or.inl rfl) dX0_compare_58 ?_
        exact g_return rfl dX0_compare_61 h
    · have h := h.2 c2
      refine g_iload_n dX0_compare_14 rfl rfl ?_
      refine g_aload_n dX0_compare_15 rfl rfl ?_
      refine g_getI flX0_21 (by decide) rfl (by decide) rfl dX0_compare_16 ?_
      refine g_icmp_ge (tgt := 43) dX0_compare_19 (by decide) (fun c8 => ?_) (fun c8 => ?_)
      · have h := h.1 c8
        refine g_iload_n dX0_compare_43 rfl rfl ?_
        refine g_aload_n dX0_compare_44 rfl rfl ?_
        refine g_getI flX0_21 (by decide) rfl (by decide) rfl dX0_compare_45 ?_
        refine g_icmp_ne (tgt := 61) dX0_compare_48 (by decide) (fun c9 => ?_) (fun c9 => ?_)
        · have h := h.1 c9
          exact g_return rfl dX0_compare_61 h
        · have h := h.2 c9
          refine g_aload_n dX0_compare_51 rfl rfl ?_
          refine g_dup dX0_compare_52 ?_
          refine g_getI flX0_25 (by decide) rfl (by decide) rfl dX0_compare_53 ?_
          refine g_iconst dX0_compare_56 (by decide) ?_
          obtain ⟨p10, h⟩ := h
          refine g_iadd dX0_compare_57 p10 ?_
          refine g_putI fpX0_25 (by decide) rfl (by decide) rfl (Or.inl rfl) dX0_compare_58 ?_
          exact g_return rfl dX0_compare_61 h
      · have h := h.2 c8
        refine g_aload_n dX0_compare_22 rfl rfl ?_
        refine g_iload_n dX0_compare_23 rfl rfl ?_
        refine g_putI fpX0_21 (by decide) rfl (by decide) rfl (Or.inl rfl) dX0_compare_24 ?_
        refine g_aload_n dX0_compare_27 rfl rfl ?_
        refine g_iconst dX0_compare_28 (by decide) ?_
        refine g_putI fpX0_25 (by decide) rfl (by decide) rfl (Or.inl rfl) dX0_compare_29 ?_
        refine g_aload_n dX0_compare_32 rfl rfl ?_
        refine g_getR (r' := 37) flX0_18 (by decide) rfl (by decide) rfl dX0_compare_33 ?_
        refine g_aload_n dX0_compare_36 rfl rfl ?_
        refine g_getR (r' := 34) flX0_12 (by decide) rfl (by decide) rfl dX0_compare_37 ?_
        refine g_invVV (as := [.inr 34]) (rest := []) okX8_copy mlX0_69 (by decide) rfl ⟨_, _, rfl⟩ rfl ⟨Nat.le_of_ble_eq_true rfl, Nat.le_of_ble_eq_true rfl⟩ (Nat.le_of_ble_eq_true rfl) rfl dX0_compare_40 h rfl (fun σ12 e13 => ?_)
        have h := e13
        refine g_iload_n dX0_compare_43 rfl rfl ?_
        refine g_aload_n dX0_compare_44 rfl rfl ?_
        refine g_getI flX0_21 (by decide) rfl (by decide) rfl dX0_compare_45 ?_
        refine g_icmp_ne (tgt := 61) dX0_compare_48 (by decide) (fun c14 => ?_) (fun c14 => ?_)
        · have h := h.1 c14
          exact g_return rfl dX0_compare_61 h
        · have h := h.2 c14
          refine g_aload_n dX0_compare_51 rfl rfl ?_
          refine g_dup dX0_compare_52 ?_
          refine g_getI flX0_25 (by decide) rfl (by decide) rfl dX0_compare_53 ?_
          refine g_iconst dX0_compare_56 (by decide) ?_
          obtain ⟨p15, h⟩ := h
          refine g_iadd dX0_compare_57 p15 ?_
          refine g_putI fpX0_25 (by decide) rfl (by decide) rfl (Or.inl rfl) dX0_compare_58 ?_
          exact g_return rfl dX0_compare_61 h
  · have h := h.2 c1
    exact g_return rfl dX0_compare_5 h
theorem c_X0_compare {m : Nat} {p : List Nat} {x1 : Int} {s : Int × Int × List Nat} {σ : Mem} {c : List Nat → Int} (hp : hld σ 36 p) (hc : σ 34 1 = p.length) (hl : p.length = m) (h5 : m ≤ 5) (hs : chH m s σ) (h1 : 0 ≤ s.2.1 ∧ s.2.1 < 1000) (ex : x1 = c p) : CM mX0_compare [.inr 33, .inl x1] σ (fun _ σ1 => chH m (bst c s p) σ1 ∧ Same [33, 37, 39] σ σ1) := by
  subst ex
  obtain ⟨e5, e6, e7⟩ := id hs
  have fresh : ∀ {R : Prop}, ((s.1 = -1 ∨ c p < s.1) → c p ≠ -1 → CM mX8_copy [.inr 37, .inr 34] (mu (mu σ 33 5 (c p)) 33 6 0) (fun _ σ4 => (c p ≠ (σ4 33 5) → chH m (bst c s p) σ4 ∧ Same [33, 37, 39] σ σ4) ∧ (c p = (σ4 33 5) → ((inR ((σ4 33 6) + 1)) ∧ (chH m (bst c s p) (mu σ4 33 6 ((σ4 33 6) + 1)) ∧ Same [33, 37, 39] σ (mu σ4 33 6 ((σ4 33 6) + 1))))))) := by
    intro R hlt hne
    have hp2 : hld (mu (mu σ 33 5 (c p)) 33 6 0) (34 + 2) p := (hp.cong (mu_nef (by decide))).cong (mu_nef (by decide))
    refine CM.mono (fun v σ4 h => ?_) (c_X8_copy seats37 seats34 (by decide) hp2 (by rw [mu_nef (by decide), mu_nef (by decide)]; exact hc) (by omega))
    obtain ⟨q1, q2, q3⟩ := h
    have r5 : σ4 33 5 = c p := by rw [q3 33 (by decide), mu_atn (by decide), mu_at, if_pos rfl]
    have r6 : σ4 33 6 = 0 := by rw [q3 33 (by decide), mu_at, if_pos rfl]
    refine ⟨fun h => absurd r5.symm h, fun _ => ?_⟩
    rw [r6]
    refine ⟨by decide, ?_, ?_⟩
    · unfold bst
      rw [if_neg hne, if_pos hlt]
      refine ⟨by rw [mu_atn (by decide)]; exact r5, by rw [mu_at, if_pos rfl]; rfl, fun _ => ⟨hl, ?_, ?_⟩⟩
      · rw [mu_nef (by decide), q1, hl]
      · exact q2.cong (mu_nef (by decide))
    · exact (((Same.mu (by decide)).tr (Same.mu (by decide))).tr (q3.wk (by decide))).tr (Same.mu (by decide))
  refine rX0_compare_0 ⟨fun hne => ⟨fun h => fresh (R := True) (Or.inl (by rw [← e5]; exact h)) hne, fun h => ⟨fun h2 => ⟨fun h3 => ⟨?_, Same.rf⟩, fun h3 => ⟨by omega, ?_, Same.mu (by decide)⟩⟩, fun h2 => fresh (R := True) (Or.inr (by rw [← e5]; exact h2)) hne⟩⟩, fun h => ⟨?_, Same.rf⟩⟩
  · unfold bst
    rw [if_neg hne, if_neg (by omega), if_neg (by omega)]
    exact hs
  · unfold bst
    rw [if_neg hne, if_neg (by omega), if_pos (by omega)]
    refine ⟨by rw [mu_atn (by decide)]; exact e5, by rw [mu_at, if_pos rfl, e6], fun h9 => ?_⟩
    have := e7 h9
    exact ⟨this.1, by rw [mu_nef (by decide)]; exact this.2.1, this.2.2.cong (mu_nef (by decide))⟩
  · unfold bst
    rw [if_pos h]
    exact hs
set_option maxRecDepth 100000 in
theorem rX0_search_0 {x1 : Int}  {σ : Mem} {Q : Int → Mem → Prop} (h : CM mX8_begin [.inr 34, .inl (σ 14 6), .inl (σ 1 7)] (mu (mu σ 33 5 (-1)) 33 6 0) (fun _ σ8 => GO none mX0_search 35 [some (.inr 33), some (.inl x1), some (.inl 1), some (.inl 0)] [] σ8 Q)) : CM mX0_search [.inr 33, .inl x1] σ Q := by
  refine CM_of_GO (by decide +kernel) rfl (Nat.le_of_ble_eq_true rfl) ?_
  show GO none mX0_search 0 [some (.inr 33), some (.inl x1), none, none] [] σ Q
  refine g_aload_n dX0_search_0 rfl rfl ?_
  refine g_iconst dX0_search_1 (by decide) ?_
  refine g_putI fpX0_21 (by decide) rfl (by decide) rfl (Or.inl rfl) dX0_search_2 ?_
  refine g_aload_n dX0_search_5 rfl rfl ?_
  refine g_iconst dX0_search_6 (by decide) ?_
  refine g_putI fpX0_25 (by decide) rfl (by decide) rfl (Or.inl rfl) dX0_search_7 ?_
  refine g_aload_n dX0_search_10 rfl rfl ?_
  refine g_getR (r' := 34) flX0_12 (by decide) rfl (by decide) rfl dX0_search_11 ?_
  refine g_aload_n dX0_search_14 rfl rfl ?_
  refine g_getR (r' := 14) flX0_32 (by decide) rfl (by decide) rfl dX0_search_15 ?_
  refine g_invVI (as := []) (rest := [.inr 34]) okX9_shops mlX0_40 (by decide) rfl ⟨_, _, rfl⟩ rfl ⟨Nat.le_of_ble_eq_true rfl, Nat.le_of_ble_eq_true rfl⟩ (Nat.le_of_ble_eq_true rfl) rfl dX0_search_18 (c_X9_shops) (Or.inl rfl) (fun v1 σ2 e3 => ?_)
  obtain ⟨e3a, e3b⟩ := e3; subst v1; subst σ2
  refine g_top (w := (σ 14 6)) rfl ?_
  refine g_aload_n dX0_search_21 rfl rfl ?_
  refine g_getR (r' := 1) flX0_28 (by decide) rfl (by decide) rfl dX0_search_22 ?_
  refine g_invVI (as := []) (rest := [.inl (σ 14 6), .inr 34]) okX2_slots mlX0_46 (by decide) rfl ⟨_, _, rfl⟩ rfl ⟨Nat.le_of_ble_eq_true rfl, Nat.le_of_ble_eq_true rfl⟩ (Nat.le_of_ble_eq_true rfl) rfl dX0_search_25 (c_X2_slots) (Or.inl rfl) (fun v4 σ5 e6 => ?_)
  obtain ⟨e6a, e6b⟩ := e6; subst v4; subst σ5
  refine g_top (w := (σ 1 7)) rfl ?_
  refine g_invVV (as := [.inl (σ 14 6), .inl (σ 1 7)]) (rest := []) okX8_begin mlX0_51 (by decide) rfl ⟨_, _, rfl⟩ rfl ⟨Nat.le_of_ble_eq_true rfl, Nat.le_of_ble_eq_true rfl⟩ (Nat.le_of_ble_eq_true rfl) rfl dX0_search_28 h rfl (fun σ8 e9 => ?_)
  have h := e9
  refine g_iconst dX0_search_31 (by decide) ?_
  refine g_istore_n (ls' := [some (.inr 33), some (.inl x1), some (.inl 1), none]) dX0_search_32 rfl (by decide) rfl ?_
  refine g_iconst dX0_search_33 (by decide) ?_
  refine g_istore_n (ls' := [some (.inr 33), some (.inl x1), some (.inl 1), some (.inl 0)]) dX0_search_34 rfl (by decide) rfl ?_
  exact h
set_option maxRecDepth 100000 in
theorem rX0_search_35 {x1 x2 x3 : Int}  {σ : Mem} {Q : Int → Mem → Prop} (h : (x2 = 0 → Q 0 σ) ∧ (x2 ≠ 0 → (720 ≤ x3 → Q 0 σ) ∧ (x3 < 720 → CM mX3_costOf [.inr 27, .inl x1, .inr 34] σ (fun v3 σ4 => CM mX0_compare [.inr 33, .inl v3] σ4 (fun _ σ7 => CM mX8_goOn [.inr 34, .inl (σ7 1 7)] σ7 (fun v12 σ13 => ((inR (x3 + 1)) ∧ (GO none mX0_search 35 [some (.inr 33), some (.inl x1), some (.inl v12), some (.inl (x3 + 1))] [] σ13 Q)))))))) : GO none mX0_search 35 [some (.inr 33), some (.inl x1), some (.inl x2), some (.inl x3)] [] σ Q := by
  refine g_iload_n dX0_search_35 rfl rfl ?_
  refine g_if_eq (tgt := 83) dX0_search_36 (by decide) (fun c1 => ?_) (fun c1 => ?_)
  · have h := h.1 c1
    exact g_return rfl dX0_search_83 h
  · have h := h.2 c1
    refine g_iload_n dX0_search_39 rfl rfl ?_
    refine g_sipush dX0_search_40 (by decide) (by decide) ?_
    refine g_icmp_ge (tgt := 83) dX0_search_43 (by decide) (fun c2 => ?_) (fun c2 => ?_)
    · have h := h.1 c2
      exact g_return rfl dX0_search_83 h
    · have h := h.2 c2
      refine g_aload_n dX0_search_46 rfl rfl ?_
      refine g_aload_n dX0_search_47 rfl rfl ?_
      refine g_getR (r' := 27) flX0_36 (by decide) rfl (by decide) rfl dX0_search_48 ?_
      refine g_iload_n dX0_search_51 rfl rfl ?_
      refine g_aload_n dX0_search_52 rfl rfl ?_
      refine g_getR (r' := 34) flX0_12 (by decide) rfl (by decide) rfl dX0_search_53 ?_
      refine g_invVI (as := [.inl x1, .inr 34]) (rest := [.inr 33]) okX3_costOf mlX0_55 (by decide) rfl ⟨_, _, rfl⟩ rfl ⟨Nat.le_of_ble_eq_true rfl, Nat.le_of_ble_eq_true rfl⟩ (Nat.le_of_ble_eq_true rfl) rfl dX0_search_56 h (Or.inl rfl) (fun v3 σ4 e5 => ?_)
      have h := e5
      refine g_invVV (as := [.inl v3]) (rest := []) okX0_compare mlX0_61 (by decide) rfl ⟨_, _, rfl⟩ rfl ⟨Nat.le_of_ble_eq_true rfl, Nat.le_of_ble_eq_true rfl⟩ (Nat.le_of_ble_eq_true rfl) rfl dX0_search_59 h rfl (fun σ7 e8 => ?_)
      have h := e8
      refine g_aload_n dX0_search_62 rfl rfl ?_
      refine g_getR (r' := 34) flX0_12 (by decide) rfl (by decide) rfl dX0_search_63 ?_
      refine g_aload_n dX0_search_66 rfl rfl ?_
      refine g_getR (r' := 1) flX0_28 (by decide) rfl (by decide) rfl dX0_search_67 ?_
      refine g_invVI (as := []) (rest := [.inr 34]) okX2_slots mlX0_46 (by decide) rfl ⟨_, _, rfl⟩ rfl ⟨Nat.le_of_ble_eq_true rfl, Nat.le_of_ble_eq_true rfl⟩ (Nat.le_of_ble_eq_true rfl) rfl dX0_search_70 (c_X2_slots) (Or.inl rfl) (fun v9 σ10 e11 => ?_)
      obtain ⟨e11a, e11b⟩ := e11; subst v9; subst σ10
      refine g_invVI (as := [.inl (σ7 1 7)]) (rest := []) okX8_goOn mlX0_65 (by decide) rfl ⟨_, _, rfl⟩ rfl ⟨Nat.le_of_ble_eq_true rfl, Nat.le_of_ble_eq_true rfl⟩ (Nat.le_of_ble_eq_true rfl) rfl dX0_search_73 h (Or.inr rfl) (fun v12 σ13 e14 => ?_)
      have h := e14
      refine g_istore_n (ls' := [some (.inr 33), some (.inl x1), some (.inl v12), some (.inl x3)]) dX0_search_76 rfl (by decide) rfl ?_
      obtain ⟨p15, h⟩ := h
      refine g_iinc (ls' := [some (.inr 33), some (.inl x1), some (.inl v12), some (.inl (x3 + 1))]) dX0_search_77 (by decide) rfl p15 rfl ?_
      refine g_goto (tgt := 35) dX0_search_80 (by decide) ?_
      exact h
theorem c_X0_search {D : Dt} {y : Nat} {x1 : Int} {σ : Mem} (hw : WF D) (hD : CD D σ) (hy : y < 4) (ex : x1 = y) : CM mX0_search [.inr 33, .inl x1] σ (fun _ σ1 => chH (dm D) (bestS D y) σ1 ∧ Same [33, 34, 36, 37, 39] σ σ1) := by
  subst ex
  have hn := hw.1
  have hm := hw.2.1
  have hmn := hw.2.2.1
  have key : ∀ (f i : Nat) (p : List Nat) (s : Int × Int × List Nat) (σ0 : Mem), i + f = 720 → p.length = dm D → okP (dn D) p → hld σ0 36 p → σ0 34 1 = p.length → chH (dm D) s σ0 → 0 ≤ s.2.1 → s.2.1 ≤ i → CD D σ0 → Same [33, 34, 36, 37, 39] σ σ0 → GO none mX0_search 35 [some (.inr 33), some (.inl (y : Int)), some (.inl 1), some (.inl (i : Int))] [] σ0 (fun _ σ1 => chH (dm D) ((walkN (dn D) f p).foldl (bst (cost D y)) s) σ1 ∧ Same [33, 34, 36, 37, 39] σ σ1) := by
    intro f
    induction f with
    | zero =>
      intro i p s σ0 hi hl ho hp hc hs h1 h2 hD0 hS
      exact rX0_search_35 ⟨fun h => by omega, fun _ => ⟨fun _ => ⟨hs, hS⟩, fun h => by omega⟩⟩
    | succ f ih =>
      intro i p s σ0 hi hl ho hp hc hs h1 h2 hD0 hS
      refine rX0_search_35 ⟨fun h => by omega, fun _ => ⟨fun h => by omega, fun _ => ?_⟩⟩
      refine CM.mono (fun v σ4 h => ?_) (c_X3_costOf (k := 34) hw hD0 seats34 hp hc hl ho.1 hy rfl)
      obtain ⟨rfl, rfl⟩ := h
      refine CM.mono (fun v2 σ7 h => ?_) (c_X0_compare (c := cost D y) hp hc hl hm hs ⟨h1, by omega⟩ rfl)
      obtain ⟨hs7, hS7⟩ := h
      have hD7 := hD0.same hS7 (by decide)
      have hp7 : hld σ7 36 p := hp.cong (hS7 36 (by decide))
      refine CM.mono (fun v3 σ13 h => ?_) (c_X8_goOn (k := 34) seats34 hp7 (by rw [hS7 34 (by decide)]; exact hc) (by omega) (by omega) hn ho.1 hD7.1)
      refine ⟨by omega, ?_⟩
      have hcnt : 0 ≤ (bst (cost D y) s p).2.1 ∧ (bst (cost D y) s p).2.1 ≤ i + 1 := by
        unfold bst
        split
        · exact ⟨h1, by omega⟩
        · split
          · exact ⟨by show (0 : Int) ≤ 1; omega, by show (1 : Int) ≤ _; omega⟩
          · split
            · exact ⟨by show (0 : Int) ≤ s.2.1 + 1; omega, by show s.2.1 + 1 ≤ _; omega⟩
            · exact ⟨h1, by omega⟩
      unfold walkN
      cases e : nxt (dn D) p with
      | none =>
        rw [e] at h
        obtain ⟨rfl, rfl⟩ := h
        exact rX0_search_35 ⟨fun _ => ⟨hs7, (hS.tr (hS7.wk (by decide)))⟩, fun h => by omega⟩
      | some q =>
        rw [e] at h
        obtain ⟨rfl, hq, hS13⟩ := h
        have hok := nxt_ok ho (by omega) e
        have := ih (i + 1) q (bst (cost D y) s p) σ13 (by omega) (by omega) hok.2 hq (by rw [hS13 34 (by decide), hS7 34 (by decide), hc, hok.1]) ?_ hcnt.1 (by omega) (hD7.same hS13 (by decide)) ((hS.tr (hS7.wk (by decide))).tr (hS13.wk (by decide)))
        · rw [List.foldl_cons]
          exact this
        · obtain ⟨a1, a2, a3⟩ := hs7
          exact ⟨by rw [hS13 33 (by decide)]; exact a1, by rw [hS13 33 (by decide)]; exact a2, fun h9 => ⟨(a3 h9).1, by rw [hS13 37 (by decide)]; exact (a3 h9).2.1, (a3 h9).2.2.cong (hS13 39 (by decide))⟩⟩
  have hS0 : Same [33, 34, 36, 37, 39] σ (mu (mu σ 33 5 (-1)) 33 6 0) := (Same.mu (by decide)).tr (Same.mu (by decide))
  have hD0 := hD.same hS0 (by decide)
  refine rX0_search_0 (CM.mono (fun v σ1 h => ?_) (c_X8_begin (k := 34) seats34 hmn hm hn hD.2.1 hD.1))
  obtain ⟨h1, h2, h3⟩ := h
  have hlen := fillF_len (dn D) (dm D) [] (by simp; exact hmn)
  rw [List.length_nil, Nat.zero_add] at hlen
  have := key 720 0 _ (-1, 0, []) σ1 rfl hlen (fillF_ok _ _ ⟨by simp, List.nodup_nil⟩) h2 (by rw [h1, hlen]) ⟨by rw [h3 33 (by decide), mu_atn (by decide), mu_at, if_pos rfl], by rw [h3 33 (by decide), mu_at, if_pos rfl], fun h => absurd rfl h⟩ (Int.le_refl 0) (Int.le_refl 0) (hD0.same h3 (by decide)) (hS0.tr (h3.wk (by decide)))
  rw [walk_enum _ (by omega) _ (by omega) hmn] at this
  exact this
